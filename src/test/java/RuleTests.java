import java.io.IOException;
import java.lang.management.ManagementFactory;
import java.lang.reflect.Array;
import java.lang.reflect.Constructor;
import java.lang.reflect.Executable;
import java.lang.reflect.Field;
import java.lang.reflect.Modifier;
import java.nio.file.Files;
import java.nio.file.Path;
import java.util.ArrayList;
import java.util.IdentityHashMap;
import java.util.List;
import java.util.Map;
import java.util.Set;
import java.util.regex.Matcher;
import java.util.regex.Pattern;

/**
 * What of ../shared/LANGUAGE.md can be seen from the text of GemCut.java, from its classes and from a running bench.
 * The rules on single indexes, divisors and loops (7 to 9) are not among them: those are for a reader.
 */
public final class RuleTests {
    private static final Path PROGRAM = Path.of("src/main/java/GemCut.java");
    private static final Set<String> FIELD_TYPES = Set.of("int", "long", "short", "byte", "char", "boolean", "double",
            "float", "java.lang.String");
    private static final Set<String> CONSTANT_TYPES = Set.of("int", "long", "boolean", "char", "java.lang.String",
            "[I", "[J", "[C", "[B");
    /** Rules 2, 6 and 13; catch and instanceof have their places, but this program needs none. */
    private static final String[] STRANGE_WORDS = {"package", "try", "catch", "finally", "synchronized", "assert",
        "native", "volatile", "hashCode", "getMessage", "instanceof", "Object", "Thread", "Runtime", "Random"};
    /** Of rule 4's static functions, all that the program uses. */
    private static final Set<String> LIBRARY = Set.of("Math.max", "Math.min", "Math.abs");

    /** The bytes of the smallest object of this machine. */
    private static final int LEAST_OBJECT = 16;

    private RuleTests() {
    }

    public static void main(String[] args) throws IOException {
        String text = Files.readString(PROGRAM);
        String code = withoutComments(text);
        onlyOneClassToTheOutside(text);
        words(code);
        library(code);
        exceptions(code);
        classes();
        methodsAreShort(text);
        whatABenchHolds();
        whatCallsMake();
        Check.end();
    }

    private static String withoutComments(String text) {
        return text.replaceAll("(?s)/\\*.*?\\*/", " ").replaceAll("//[^\n]*", " ");
    }

    private static int times(String code, String pattern) {
        Matcher m = Pattern.compile(pattern).matcher(code);
        int found = 0;
        while (m.find()) {
            found++;
        }
        return found;
    }

    // ---- rules 1, 2, 4, 5, 6

    private static void onlyOneClassToTheOutside(String text) {
        Check.same("classes at the outside", 1, times(text, "(?m)^public final class GemCut \\{"));
        Check.same("other types at the outside", 1, times(text, "(?m)^(\\w+ )*(class|interface|enum|record) "));
        for (int i = 0; i < text.length(); i++) {
            if (text.charAt(i) > 126) {
                Check.same("the sign " + i, "of 1 to 126", String.valueOf(text.charAt(i)));
            }
        }
    }

    private static void words(String code) {
        String bare = code.replaceAll("\"[^\"\n]*\"", "\"\"");
        for (String word : STRANGE_WORDS) {
            Check.same("the word " + word, 0, times(bare, "\\b" + word + "\\b"));
        }
        Check.same("lambdas", 0, times(bare, "->"));
        Check.same("method references", 0, times(bare, "::"));
        Check.same("static initialisers", 0, times(bare, "\\bstatic\\s*\\{"));
        Check.same("annotations", 0, times(bare, "@"));
        Check.same("imports beside those of rule 4", times(bare, "\\bimport\\b"),
                times(bare, "\\bimport java\\.util\\.(ArrayList|List|Iterator|Arrays|NoSuchElementException);"));
    }

    private static void library(String code) {
        Matcher m = Pattern.compile("\\b([A-Z]\\w*[a-z]\\w*)\\.(\\w+)").matcher(code);
        while (m.find()) {
            String used = m.group(1) + "." + m.group(2);
            Check.same(used + " is allowed", true, LIBRARY.contains(used));
        }
    }

    private static void exceptions(String code) {
        String kinds = "(IndexOutOfBounds|IllegalArgument|IllegalState)Exception";
        Check.same("each throw is of a written text", times(code, "\\bthrow\\b"),
                times(code, "\\bthrow new " + kinds + "\\(\"[^\"\n]*\"\\);"));
        Check.same("each text is an exception's", times(code, "\"[^\"\n]*\""), times(code, "Exception\\(\"[^\"\n]*\"\\)"));
    }

    // ---- rules 3, 5, 11

    private static void classes() {
        List<Class<?>> all = new ArrayList<>();
        gather(GemCut.class, all);
        Check.same("at most twelve classes", true, all.size() <= 12);
        for (Class<?> c : all) {
            int held = 0;
            for (Field f : c.getDeclaredFields()) {
                if (Modifier.isStatic(f.getModifiers())) {
                    Check.same(f + " is a constant", true, Modifier.isFinal(f.getModifiers())
                            && CONSTANT_TYPES.contains(f.getType().getName()));
                } else {
                    held++;
                    Check.same(f + " is of an allowed type", true, isAllowed(f.getType(), all));
                }
            }
            Check.same(c + " has at most twenty fields", true, held <= 20);
            List<Executable> callables = new ArrayList<>(List.of(c.getDeclaredMethods()));
            callables.addAll(List.<Constructor<?>>of(c.getDeclaredConstructors()));
            for (Executable e : callables) {
                Check.same(e + " takes at most seven", true, e.getParameterCount() <= 7);
            }
        }
    }

    private static void gather(Class<?> c, List<Class<?>> all) {
        all.add(c);
        for (Class<?> inside : c.getDeclaredClasses()) {
            gather(inside, all);
        }
    }

    private static boolean isAllowed(Class<?> type, List<Class<?>> own) {
        Class<?> part = type.isArray() ? type.getComponentType() : type;
        return own.contains(part) || FIELD_TYPES.contains(part.getName());
    }

    /** Rule 11; a brace at the indent of its head ends a method. */
    private static void methodsAreShort(String text) {
        String[] lines = text.split("\n");
        for (int i = 0; i < lines.length; i++) {
            Matcher head = Pattern.compile("^( {4}| {8})\\w[\\w\\[\\] ]*\\(.*").matcher(lines[i]);
            boolean opens = lines[i].endsWith("{") || lines[i].endsWith(")");
            if (head.matches() && opens) {
                int end = i;
                while (end < lines.length && !lines[end].equals(head.group(1) + "}")) {
                    end++;
                }
                Check.same("the method of line " + (i + 1) + " has at most 60 lines", true, end - i < 60);
            }
        }
    }

    // ---- rule 12: what a run makes

    private static void whatABenchHolds() {
        Map<Object, Object> seen = new IdentityHashMap<>();
        int parts = partsOf(new GemCut(), seen);
        Check.same("a bench is of few objects: " + seen.size(), true, seen.size() <= 400);
        Check.same("and of few fields and elements: " + parts, true, parts <= 10000);
    }

    private static int partsOf(Object o, Map<Object, Object> seen) {
        if (o == null || o instanceof String || seen.put(o, o) != null) {
            return 0;
        }
        int parts = 0;
        if (o.getClass().isArray()) {
            parts += Array.getLength(o);
            for (int i = 0; i < Array.getLength(o) && !o.getClass().getComponentType().isPrimitive(); i++) {
                parts += partsOf(Array.get(o, i), seen);
            }
            return parts;
        }
        for (Field f : o.getClass().getDeclaredFields()) {
            if (!Modifier.isStatic(f.getModifiers())) {
                parts++;
                f.setAccessible(true);
                try {
                    parts += f.getType().isPrimitive() ? 0 : partsOf(f.get(o), seen);
                } catch (IllegalAccessException e) {
                    Check.same(f + " can be looked into", true, false);
                }
            }
        }
        return parts;
    }

    /** No call that doesn't throw makes any object. */
    private static void whatCallsMake() {
        for (int call = 0; call < 16; call++) {
            GemCut x = new GemCut();
            x.take(10, 10, 10);
            for (int f = 0; f < 9; f++) {
                x.flaw(f, f, f, 3, 1);
            }
            x.saw(0, 1, 0, 0, 5);
            x.cut(0, 0, 1, 1, 17);
            ask(x, call, 0);
            allocated();
            long before = allocated();
            for (int n = 1; n <= 400; n++) {
                ask(x, call, n);
            }
            long made = allocated() - before;
            Check.same("bytes made by 400 calls of the kind " + call + ": " + made, true, made < 400 * LEAST_OBJECT);
        }
    }

    private static long allocated() {
        return ((com.sun.management.ThreadMXBean) ManagementFactory.getThreadMXBean())
                .getCurrentThreadAllocatedBytes();
    }

    private static long ask(GemCut x, int call, int n) {
        switch (call) {
            case 0:
                return x.take(10, 10, 10);
            case 1:
                return n < 1 ? x.flaw(5, 5, 5, 3, 9) : 0;
            case 2:
                return x.cell(n % 10, 9, 9);
            case 3:
                return x.flawIn(n % 9, n % 2, n % 3);
            case 4:
                return n < 6 ? x.saw(0, 0, 0, 1, 8 - n) : 0;
            case 5:
                return n < 15 ? x.cut(0, 1, 0, 0, 5) : 0;
            case 6:
                return n < 1 ? x.polish(0, 0) : 0;
            case 7:
                return x.dress();
            case 8:
                return x.stone(n % 2, n % 9);
            case 9:
                return x.plane(0, 0, n % 6) + x.angle(0, 0, 0);
            case 10:
                return x.count(n % 8);
            case 11:
                return x.would(0, 1, n % 3, -1, n % 20, n % 4);
            case 12:
                return x.depth(0, 1, n % 3, -1);
            case 13:
                return x.rid(n % 9, n % 2, n % 3);
            case 14:
                return (long) (1000 * x.kept());
            default:
                return x.digest();
        }
    }
}
