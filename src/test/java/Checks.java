/** Counts the answers that are not the ones that are due, and tells them. */
class Checks {
    interface Call {
        long answer();
    }

    private final String name;
    private int wrong = 0;
    private int asked = 0;

    Checks(String name) {
        this.name = name;
    }

    static long bit(boolean value) {
        return value ? 1 : 0;
    }

    void due(String what, long want, long got) {
        asked++;
        if (want != got) {
            tell(what + " answered " + got + ", due is " + want);
        }
    }

    void yes(String what, boolean got) {
        due(what, 1, bit(got));
    }

    void no(String what, boolean got) {
        due(what, 0, bit(got));
    }

    void badArgument(String what, Call call) {
        thrown(what, IllegalArgumentException.class, call);
    }

    void badState(String what, Call call) {
        thrown(what, IllegalStateException.class, call);
    }

    void badPlace(String what, Call call) {
        thrown(what, IndexOutOfBoundsException.class, call);
    }

    private void thrown(String what, Class<? extends RuntimeException> want, Call call) {
        asked++;
        try {
            long got = call.answer();
            tell(what + " answered " + got + ", due is " + want.getSimpleName());
        } catch (RuntimeException got) {
            if (got.getClass() != want) {
                tell(what + " threw " + got + ", due is " + want.getSimpleName());
            }
        }
    }

    /** The arguments are in their ranges: the call may throw for its state or place, but for nothing else. */
    void inRange(String what, Call call) {
        asked++;
        try {
            call.answer();
        } catch (RuntimeException got) {
            if (got.getClass() != IllegalStateException.class && got.getClass() != IndexOutOfBoundsException.class) {
                tell(what + " threw " + got);
            }
        }
    }

    int asked() {
        return asked;
    }

    void tell(String what) {
        wrong++;
        System.out.println(name + ": " + what);
    }

    void finish() {
        System.out.println(name + ": " + asked + " answers asked for, " + wrong + " not as due");
        if (wrong != 0 || asked == 0) {
            System.exit(1);
        }
    }
}
