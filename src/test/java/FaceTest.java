import java.lang.reflect.Constructor;
import java.lang.reflect.Field;
import java.lang.reflect.Method;
import java.lang.reflect.Modifier;
import java.util.ArrayList;
import java.util.Arrays;
import java.util.List;

/** The public face is the document's, and nothing else can be seen. */
final class FaceTest {
    private static final String[] METHODS = {
        "int makeCollection(int,int,int) IllegalArgumentException",
        "int put(int,int,int,int,int) IllegalArgumentException",
        "int delete(int,int,int) IllegalArgumentException",
        "int failures()",
        "int failureAt(int) IndexOutOfBoundsException",
        "int copy(int,int,int,boolean,int) IllegalArgumentException",
        "int move(int,int,int,boolean,int) IllegalArgumentException",
        "int kindOf(int) IllegalArgumentException",
        "int content(int) IllegalArgumentException",
        "int resources()",
        "int members(int) IllegalArgumentException",
        "int memberAt(int,int) IllegalArgumentException IndexOutOfBoundsException",
        "int order(int,int,int,int) IllegalArgumentException",
        "int lock(int,int,boolean,boolean,int,int) IllegalArgumentException IllegalStateException",
        "int refresh(int,int,int) IndexOutOfBoundsException IllegalArgumentException IllegalStateException",
        "int pass(int) IllegalArgumentException IllegalStateException",
        "int covering(int) IllegalArgumentException",
        "boolean mayChange(int,int,int) IllegalArgumentException",
        "int keep(int) IllegalArgumentException IllegalStateException",
        "int restore(int,int,int,int) IllegalArgumentException",
    };
    private static final String[] CONSTANTS = {
        "NONE=-1", "DONE=0", "MISSING=1", "EXISTS=2", "CONDITION=3", "LOCKED=4", "FULL=5", "PARTLY=6",
        "FILE=1", "COLLECTION=2",
    };

    public static void main(String[] args) throws IllegalAccessException {
        Checks checks = new Checks("FaceTest");
        checks.yes("the class is public and final",
            ShelfServer.class.getModifiers() == (Modifier.PUBLIC | Modifier.FINAL));
        same(checks, "methods", METHODS, methods());
        same(checks, "constants", CONSTANTS, constants());
        Constructor<?>[] made = ShelfServer.class.getDeclaredConstructors();
        checks.due("constructors", 1, made.length);
        checks.yes("the constructor is public", Modifier.isPublic(made[0].getModifiers()));
        checks.due("its parameters", 0, made[0].getParameterCount());
        privateNames(checks);
        checks.finish();
    }

    private static List<String> methods() {
        List<String> found = new ArrayList<>();
        for (Method one : ShelfServer.class.getDeclaredMethods()) {
            if (Modifier.isPrivate(one.getModifiers())) {
                continue;
            }
            StringBuilder text = new StringBuilder();
            text.append(one.getReturnType().getSimpleName()).append(' ').append(one.getName()).append('(');
            for (int i = 0; i < one.getParameterCount(); i++) {
                text.append(i == 0 ? "" : ",").append(one.getParameterTypes()[i].getSimpleName());
            }
            text.append(')');
            for (Class<?> thrown : one.getExceptionTypes()) {
                text.append(' ').append(thrown.getSimpleName());
            }
            found.add(text.toString());
        }
        return found;
    }

    private static List<String> constants() throws IllegalAccessException {
        List<String> found = new ArrayList<>();
        for (Field one : ShelfServer.class.getDeclaredFields()) {
            if (!Modifier.isPrivate(one.getModifiers())) {
                boolean isConstant = one.getModifiers() == (Modifier.PUBLIC | Modifier.STATIC | Modifier.FINAL);
                found.add(isConstant ? one.getName() + "=" + one.getInt(null) : one.getName() + " is no constant");
            }
        }
        return found;
    }

    private static void same(Checks checks, String what, String[] want, List<String> got) {
        for (String one : want) {
            checks.yes(what + " have " + one, got.contains(one));
        }
        for (String one : got) {
            checks.yes(what + " may have " + one, Arrays.asList(want).contains(one));
        }
    }

    private static void privateNames(Checks checks) {
        List<String> open = new ArrayList<>();
        for (String one : METHODS) {
            open.add(one.substring(one.indexOf(' ') + 1, one.indexOf('(')));
        }
        List<Class<?>> all = new ArrayList<>(Arrays.asList(ShelfServer.class.getDeclaredClasses()));
        all.add(ShelfServer.class);
        for (Class<?> one : all) {
            for (Method method : one.getDeclaredMethods()) {
                if (Modifier.isPrivate(method.getModifiers())) {
                    checks.no("private method bears a public name: " + method, open.contains(method.getName()));
                }
            }
        }
    }
}
