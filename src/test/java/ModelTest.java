import java.util.ArrayList;
import java.util.Arrays;
import java.util.List;
import java.util.Random;

/**
 * All promises at once: long runs of calls, the same ones in every run of this test, asked of the class and of
 * the Model. No object gets more than 512 calls.
 */
final class ModelTest {
    private static final String[] NAMES = {
        "makeCollection", "put", "delete", "failures", "failureAt", "copy", "move", "kindOf", "content",
        "resources", "members", "memberAt", "order", "lock", "refresh", "pass", "covering", "mayChange", "keep",
        "restore",
    };
    private static final int RUNS = 6000;
    private static final int MOST_CALLS = 512;
    private static final int[] ODD = {-1, 4, 1000, 1001, 10, 102, 11111, Integer.MAX_VALUE, Integer.MIN_VALUE};

    private final Random random;
    private int digits;
    private final int oddOnes;
    private final int[] weights = new int[NAMES.length];
    private final List<Integer> known = new ArrayList<>();
    private final int ofOneClient;
    private boolean mayOverwrite = true;
    private int lastToken = 0;

    private ModelTest(long seed) {
        random = new Random(seed);
        digits = 2 + random.nextInt(4);
        oddOnes = random.nextInt(3) * 2;
        ofOneClient = random.nextInt(9);
        for (String name : NAMES) {
            weigh(name, 2 + random.nextInt(8));
        }
        weigh("makeCollection", 2 + random.nextInt(50));
        weigh("put", 2 + random.nextInt(30));
        weigh("delete", random.nextInt(6));
        weigh("copy", 2 + random.nextInt(30));
        weigh("move", random.nextInt(6));
        if (random.nextInt(3) == 0) {
            grow();
        }
        weigh("lock", random.nextInt(4) * random.nextInt(8));
        weigh("pass", random.nextInt(3));
    }

    /** Runs in which little goes come to 60 resources. */
    private void grow() {
        digits = 5 + random.nextInt(5);
        weigh("makeCollection", 100);
        weigh("put", 60);
        weigh("delete", random.nextInt(3));
        weigh("move", random.nextInt(4));
        mayOverwrite = random.nextInt(4) == 0;
    }

    private void weigh(String name, int weight) {
        weights[Arrays.asList(NAMES).indexOf(name)] = weight;
    }

    public static void main(String[] args) {
        Checks checks = new Checks("ModelTest");
        for (int seed = 0; seed < RUNS; seed++) {
            new ModelTest(seed).run(checks, seed);
        }
        checks.finish();
    }

    private void run(Checks checks, int seed) {
        ShelfServer server = new ShelfServer();
        Model model = new Model();
        List<String> told = new ArrayList<>();
        int calls = 20 + random.nextInt(MOST_CALLS - 20);
        for (int i = 0; i < calls; i++) {
            String name = name();
            int[] with = arguments(name);
            String got = answer(name, with, true, server, model);
            String want = answer(name, with, false, server, model);
            told.add(name + Arrays.toString(with) + " " + got);
            if (!got.equals(want)) {
                checks.tell("run " + seed + ", due is " + want + " at the last of " + told);
                return;
            }
            remember(name, with, got);
        }
        checks.due("run " + seed, 0, 0);
    }

    /** Paths at which something has been are asked for more often than others. */
    private void remember(String name, int[] with, String got) {
        int path = 0;
        if (name.equals("lock") && !got.startsWith("throws")) {
            lastToken = Integer.parseInt(got);
            path = with[1];
        } else if (got.equals("0") && (name.equals("makeCollection") || name.equals("put"))) {
            path = with[1];
        } else if (got.equals("0") && (name.equals("copy") || name.equals("move"))) {
            path = with[2];
        }
        if (path != 0 && !known.contains(path)) {
            known.add(path);
        }
    }

    private String name() {
        int sum = 0;
        for (int weight : weights) {
            sum += weight;
        }
        int left = random.nextInt(sum);
        for (int i = 0; i < weights.length; i++) {
            left -= weights[i];
            if (left < 0) {
                return NAMES[i];
            }
        }
        return NAMES[0];
    }

    private int[] arguments(String name) {
        int[] with = switch (name) {
            case "makeCollection" -> new int[] {client(), path(), tokens()};
            case "delete" -> new int[] {client(), small(2) > 0 ? path() : path() / 10, tokens()};
            case "put" -> new int[] {client(), path(), small(4), small(5) > 1 ? -1 : small(4), tokens()};
            case "failures", "resources" -> new int[0];
            case "failureAt" -> new int[] {small(4) - 1};
            case "copy", "move" -> new int[] {client(), path(), path(), mayOverwrite ? small(2) : 0, tokens()};
            case "kindOf", "content", "members", "covering", "keep" -> new int[] {path()};
            case "memberAt" -> new int[] {path(), small(5) - 1};
            case "order" -> new int[] {client(), path(), small(5), tokens()};
            case "lock" -> new int[] {client(), path(), small(4) > 0 ? 1 : 0, small(2), 1 + small(30), tokens()};
            case "refresh" -> new int[] {client(), Math.max(-1, lastToken + 1 - small(4)), small(20)};
            case "pass" -> new int[] {1 + small(6)};
            case "mayChange" -> new int[] {client(), path(), tokens()};
            default -> new int[] {client(), path(), small(3), tokens()};
        };
        if (with.length > 0 && random.nextInt(100) < oddOnes) {
            with[random.nextInt(with.length)] = ODD[random.nextInt(ODD.length)];
        }
        return with;
    }

    private int small(int bound) {
        return random.nextInt(bound);
    }

    private int client() {
        return random.nextInt(10) < ofOneClient ? 0 : random.nextInt(4);
    }

    private int path() {
        int old = known.isEmpty() ? 0 : known.get(random.nextInt(known.size()));
        int kind = random.nextInt(10);
        if (kind < 4 && old > 0) {
            return old;
        }
        if (kind < 8 && old < 1000) {
            return old * 10 + 1 + random.nextInt(digits);
        }
        int path = 0;
        for (int i = random.nextInt(5); i > 0; i--) {
            path = path * 10 + 1 + random.nextInt(digits);
        }
        return path;
    }

    private int tokens() {
        int kind = random.nextInt(4);
        return kind == 0 ? 0 : kind == 1 ? random.nextInt(Integer.MAX_VALUE) : Integer.MAX_VALUE;
    }

    private static String answer(String name, int[] a, boolean isServer, ShelfServer server, Model model) {
        try {
            return Long.toString(isServer ? ask(server, name, a) : ask(model, name, a));
        } catch (RuntimeException thrown) {
            return "throws." + thrown.getClass().getSimpleName();
        }
    }

    private static long ask(ShelfServer x, String name, int[] a) {
        return switch (name) {
            case "makeCollection" -> x.makeCollection(a[0], a[1], a[2]);
            case "put" -> x.put(a[0], a[1], a[2], a[3], a[4]);
            case "delete" -> x.delete(a[0], a[1], a[2]);
            case "failures" -> x.failures();
            case "failureAt" -> x.failureAt(a[0]);
            case "copy" -> x.copy(a[0], a[1], a[2], a[3] != 0, a[4]);
            case "move" -> x.move(a[0], a[1], a[2], a[3] != 0, a[4]);
            case "kindOf" -> x.kindOf(a[0]);
            case "content" -> x.content(a[0]);
            case "resources" -> x.resources();
            case "members" -> x.members(a[0]);
            case "memberAt" -> x.memberAt(a[0], a[1]);
            case "order" -> x.order(a[0], a[1], a[2], a[3]);
            case "lock" -> x.lock(a[0], a[1], a[2] != 0, a[3] != 0, a[4], a[5]);
            case "refresh" -> x.refresh(a[0], a[1], a[2]);
            case "pass" -> x.pass(a[0]);
            case "covering" -> x.covering(a[0]);
            case "mayChange" -> Checks.bit(x.mayChange(a[0], a[1], a[2]));
            case "keep" -> x.keep(a[0]);
            default -> x.restore(a[0], a[1], a[2], a[3]);
        };
    }

    private static long ask(Model x, String name, int[] a) {
        return switch (name) {
            case "makeCollection" -> x.makeCollection(a[0], a[1], a[2]);
            case "put" -> x.put(a[0], a[1], a[2], a[3], a[4]);
            case "delete" -> x.delete(a[0], a[1], a[2]);
            case "failures" -> x.failures();
            case "failureAt" -> x.failureAt(a[0]);
            case "copy" -> x.copy(a[0], a[1], a[2], a[3] != 0, a[4]);
            case "move" -> x.move(a[0], a[1], a[2], a[3] != 0, a[4]);
            case "kindOf" -> x.kindOf(a[0]);
            case "content" -> x.content(a[0]);
            case "resources" -> x.resources();
            case "members" -> x.members(a[0]);
            case "memberAt" -> x.memberAt(a[0], a[1]);
            case "order" -> x.order(a[0], a[1], a[2], a[3]);
            case "lock" -> x.lock(a[0], a[1], a[2] != 0, a[3] != 0, a[4], a[5]);
            case "refresh" -> x.refresh(a[0], a[1], a[2]);
            case "pass" -> x.pass(a[0]);
            case "covering" -> x.covering(a[0]);
            case "mayChange" -> Checks.bit(x.mayChange(a[0], a[1], a[2]));
            case "keep" -> x.keep(a[0]);
            default -> x.restore(a[0], a[1], a[2], a[3]);
        };
    }
}
