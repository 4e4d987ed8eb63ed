import java.io.IOException;
import java.lang.reflect.Constructor;
import java.lang.reflect.Field;
import java.lang.reflect.Method;
import java.lang.reflect.Modifier;
import java.nio.file.Files;
import java.nio.file.Path;
import java.util.ArrayList;
import java.util.Arrays;
import java.util.HashSet;
import java.util.List;
import java.util.Set;
import java.util.regex.Matcher;
import java.util.regex.Pattern;

/**
 * Rules of ../shared/LANGUAGE.md that the source shows. It is stricter than they are: what the class has done
 * without so far (try, lists, casts) is not taken, so that whoever brings it in looks at its rule first.
 */
final class LanguageTest {
    private static final Path SOURCE = Path.of("src", "main", "java", "ShelfServer.java");
    private static final List<String> EXCEPTIONS = List.of(
        "IllegalStateException", "IllegalArgumentException", "IndexOutOfBoundsException");
    private static final String[] STRANGE = {
        "import", "package", "try", "catch", "finally", "synchronized", "assert", "instanceof", "protected",
        "native", "volatile", "transient", "var", "yield", "default", "do", "this", "super", "float", "double",
    };
    private static final Checks CHECKS = new Checks("LanguageTest");

    /** A method or constructor of the source; start is where its body begins in the text. */
    private record Part(String owner, String name, int start, String body, boolean isConstructor) {
        private String title() {
            return owner + "." + name;
        }
    }

    public static void main(String[] args) throws IOException {
        String source = Files.readString(SOURCE);
        String code = withoutComments(source);
        List<Part> parts = parts(code);
        CHECKS.yes("the methods are found", parts.size() >= 20);
        strangeWords(code);
        texts(code);
        divisors(code);
        for (Part part : parts) {
            indexes(part);
            objects(part);
            lines(part);
        }
        calls(parts);
        members();
        CHECKS.finish();
    }

    // ---- what stands in the text

    private static String withoutComments(String source) {
        return source.replaceAll("(?s)/\\*.*?\\*/", "").replaceAll("//[^\n]*", "");
    }

    private static void strangeWords(String code) {
        String words = code.replaceAll("\"[^\"]*\"", "");
        for (String one : STRANGE) {
            CHECKS.no(one + " is used", Pattern.compile("\\b" + one + "\\b").matcher(words).find());
        }
        CHECKS.no("a lambda or a method reference", words.contains("->") || words.contains("::"));
        List<String> own = new ArrayList<>(EXCEPTIONS);
        for (Class<?> one : classes()) {
            own.add(one.getSimpleName());
        }
        Matcher types = Pattern.compile("\\b[A-Z]\\w*[a-z]\\w*\\b").matcher(words);
        while (types.find()) {
            CHECKS.yes("rule 4, the type " + types.group(), own.contains(types.group()));
        }
    }

    private static void texts(String code) {
        String rest = code.replaceAll("throw new \\w+\\(\"[^\"]*\"\\);", "");
        CHECKS.no("rule 6, a text or a throw that is not: throw new E(\"a written text\")",
            rest.contains("\"") || rest.contains("throw ") || rest.contains("'"));
    }

    private static void divisors(String code) {
        Matcher divisions = Pattern.compile("[/%]=?\\s*(\\S+)").matcher(code);
        while (divisions.find()) {
            CHECKS.yes("rule 7, the divisor " + divisions.group(1), divisions.group(1).matches("[1-9]\\d*\\W*"));
        }
    }

    /** Whoever uses an index of an array has looked at the length of that array in the same method. */
    private static void indexes(Part part) {
        Matcher uses = Pattern.compile("([\\w.]+)\\[").matcher(part.body().replaceAll("new \\w+\\[", ""));
        while (uses.find()) {
            CHECKS.yes("rule 7, an index of " + uses.group(1) + " in " + part.title(),
                part.body().contains(uses.group(1) + ".length"));
        }
    }

    private static void objects(Part part) {
        String rest = part.body().replaceAll("throw new", "");
        CHECKS.yes("rule 12, objects are made in constructors alone, and in " + part.title(),
            part.isConstructor() || !rest.contains("new "));
        CHECKS.no("rule 6, a throw in the constructor " + part.title(),
            part.isConstructor() && part.body().contains("throw"));
    }

    private static void lines(Part part) {
        CHECKS.yes("rule 11, too many lines in " + part.title(), part.body().split("\n").length <= 60);
    }

    // ---- who calls whom

    private static List<Part> parts(String code) {
        List<Part> found = new ArrayList<>();
        String owner = "";
        Matcher heads = Pattern.compile("\\bclass (\\w+) \\{"
            + "|(?:public|private) (?:static )?(?:final )?(?:\\w+ )?(\\w+)\\([^)]*\\)[^{;]*\\{").matcher(code);
        while (heads.find()) {
            if (heads.group(1) != null) {
                owner = heads.group(1);
                continue;
            }
            String name = heads.group(2);
            String body = code.substring(heads.end(), endOfBody(code, heads.end()));
            found.add(new Part(owner, name, heads.end(), body, name.equals(owner)));
        }
        return found;
    }

    private static int endOfBody(String code, int start) {
        int open = 1;
        int at = start;
        while (open > 0 && at < code.length()) {
            open += code.charAt(at) == '{' ? 1 : code.charAt(at) == '}' ? -1 : 0;
            at++;
        }
        return at;
    }

    private static void calls(List<Part> parts) {
        for (Part part : parts) {
            int deep = depth(part, parts, new HashSet<>());
            CHECKS.yes("rule 11, calls from " + part.title() + " go " + deep + " deep", deep <= 8);
        }
    }

    /** How many calls stand open at most, this one too. */
    private static int depth(Part part, List<Part> parts, Set<Part> open) {
        if (!open.add(part)) {
            CHECKS.tell("rule 8, " + part.title() + " calls itself");
            return 1;
        }
        int deepest = 0;
        Matcher calls = Pattern.compile("(\\w+\\]?\\.)?(\\w+)\\(").matcher(part.body());
        while (calls.find()) {
            String on = calls.group(1) == null ? "" : calls.group(1);
            for (Part called : parts) {
                if (called.name().equals(calls.group(2)) && mayBeOf(called.owner(), on, part.owner())) {
                    deepest = Math.max(deepest, depth(called, parts, open));
                }
            }
        }
        open.remove(part);
        return 1 + deepest;
    }

    /** A field that bears the name of a class is of it; other objects may be of any class inside. */
    private static boolean mayBeOf(String owner, String on, String caller) {
        if (on.isEmpty()) {
            return owner.equals(caller) || owner.equals("ShelfServer");
        }
        if (on.equals("shelf.") || on.equals("locks.")) {
            return owner.equalsIgnoreCase(on.substring(0, on.length() - 1));
        }
        return owner.equals("Resource") || owner.equals("Lock");
    }

    // ---- what the compiled classes show

    private static List<Class<?>> classes() {
        List<Class<?>> all = new ArrayList<>(Arrays.asList(ShelfServer.class.getDeclaredClasses()));
        all.add(ShelfServer.class);
        return all;
    }

    private static void members() {
        CHECKS.yes("rule 11, too many classes", classes().size() <= 12);
        for (Class<?> one : classes()) {
            String name = one.getSimpleName();
            CHECKS.yes("rule 2, " + name + " is not private and static", one == ShelfServer.class
                || Modifier.isPrivate(one.getModifiers()) && Modifier.isStatic(one.getModifiers()));
            CHECKS.due("rule 2, classes in " + name, 0,
                one == ShelfServer.class ? 0 : one.getDeclaredClasses().length);
            fields(one);
            for (Method method : one.getDeclaredMethods()) {
                CHECKS.yes("rule 11, too many parameters: " + method, method.getParameterCount() <= 7);
            }
            for (Constructor<?> made : one.getDeclaredConstructors()) {
                CHECKS.yes("rule 11, too many parameters: " + made, made.getParameterCount() <= 7);
            }
        }
    }

    private static void fields(Class<?> one) {
        int count = 0;
        for (Field field : one.getDeclaredFields()) {
            if (Modifier.isStatic(field.getModifiers())) {
                CHECKS.yes("rule 5, " + field + " is no constant",
                    Modifier.isFinal(field.getModifiers()) && field.getType() == int.class);
            } else {
                count++;
            }
        }
        CHECKS.yes("rule 11, too many fields in " + one.getSimpleName(), count <= 20);
    }
}
