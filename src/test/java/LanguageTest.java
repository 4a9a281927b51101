import java.io.IOException;
import java.lang.reflect.Constructor;
import java.lang.reflect.Field;
import java.lang.reflect.Method;
import java.lang.reflect.Modifier;
import java.nio.charset.StandardCharsets;
import java.nio.file.Files;
import java.nio.file.Path;
import java.util.Map;
import java.util.Set;
import java.util.TreeMap;
import java.util.TreeSet;
import java.util.regex.Matcher;
import java.util.regex.Pattern;

/** The public face of the document, and the rules of LANGUAGE.md that can be read off. */
public final class LanguageTest {
    private static final Path SOURCE = Path.of("src/main/java/KingRansom.java");

    private static final int DEEPEST = 8;

    private static final String[] FACE = {
        "feed(int)", "ransom()", "fault()", "told(int)", "payer(int,int)", "bid(int)", "rate(int,int)", "month(int)", "raise(int)",
        "hostage(int,boolean)", "free()", "dies()", "drift(int)", "undo()", "brings(int)", "leastRate(int)", "rateOfMost()",
        "spread(int,int)", "sell(int,int)", "homeOrder(int)", "letters(int,int,int,int,int)", "spared(int,int)", "lives(int)",
        "monthsTo()", "weigh(int,int)", "isShort(int)", "write(int,int)", "tear()", "judge()", "seed(int)", "keep(int)", "goBack(int)"};

    private static final Check check = new Check("LanguageTest");

    public static void main(String[] args) throws IOException {
        String source = new String(Files.readAllBytes(SOURCE), StandardCharsets.ISO_8859_1);
        face();
        constants();
        classes();
        words(withoutComments(source));
        methodsAreShort(source);
        callsAreShallow(withoutComments(source));
        check.end();
    }

    private static void face() {
        check.part("rule 1");
        check.due("public and final", KingRansom.class.getModifiers(), Modifier.PUBLIC | Modifier.FINAL);
        Set<String> open = new TreeSet<>();
        Set<String> names = new TreeSet<>();
        for (Method m : KingRansom.class.getDeclaredMethods()) {
            if (!Modifier.isPrivate(m.getModifiers())) {
                open.add(m.getName() + parameters(m));
                names.add(m.getName());
                check.due(m + " is public alone and answers an int", m.getModifiers() == Modifier.PUBLIC && m.getReturnType() == int.class ? 1 : 0, 1);
            }
        }
        check.due("the face is " + open, open.equals(new TreeSet<>(Set.of(FACE))) ? 1 : 0, 1);
        for (Class<?> c : all()) {
            for (Method m : c.getDeclaredMethods()) {
                boolean twice = Modifier.isPrivate(m.getModifiers()) && names.contains(m.getName());
                check.due(m + " bears a public name", twice ? 1 : 0, 0);
                check.due(m + " takes seven at most", m.getParameterCount() <= 7 ? 1 : 0, 1);
            }
        }
        Constructor<?>[] made = KingRansom.class.getDeclaredConstructors();
        check.due("constructors", made.length, 1);
        check.due("public constructor", made[0].getModifiers(), Modifier.PUBLIC);
        check.due("its parameters", made[0].getParameterCount(), 0);
    }

    private static String parameters(Method m) {
        StringBuilder b = new StringBuilder("(");
        for (Class<?> c : m.getParameterTypes()) {
            b.append(b.length() > 1 ? "," : "").append(c.getName());
        }
        return b.append(")").toString();
    }

    private static void constants() {
        check.part("the constants");
        check.due("NONE", KingRansom.NONE, -1);
        check.due("UNKNOWN", KingRansom.UNKNOWN, -1000000001);
        check.due("OUTSIDE", KingRansom.OUTSIDE, -1000000002);
        check.due("NOT", KingRansom.NOT, -1000000003);
        check.due("FULL", KingRansom.FULL, -1000000004);
        Set<String> open = new TreeSet<>();
        for (Field f : KingRansom.class.getDeclaredFields()) {
            if (!Modifier.isPrivate(f.getModifiers())) {
                open.add(f.getName());
            }
        }
        check.due("open fields " + open, open.equals(new TreeSet<>(Set.of("NONE", "UNKNOWN", "OUTSIDE", "NOT", "FULL"))) ? 1 : 0, 1);
    }

    private static Class<?>[] all() {
        Class<?>[] inside = KingRansom.class.getDeclaredClasses();
        Class<?>[] all = new Class<?>[inside.length + 1];
        System.arraycopy(inside, 0, all, 1, inside.length);
        all[0] = KingRansom.class;
        return all;
    }

    private static void classes() {
        check.part("rules 2, 5 and 11");
        check.due("twelve classes at most", all().length <= 12 ? 1 : 0, 1);
        for (Class<?> c : all()) {
            check.due(c + " is static", c == KingRansom.class || Modifier.isStatic(c.getModifiers()) ? 1 : 0, 1);
            int own = 0;
            for (Field f : c.getDeclaredFields()) {
                boolean isStatic = Modifier.isStatic(f.getModifiers());
                check.due(f + " is final, if static", !isStatic || Modifier.isFinal(f.getModifiers()) ? 1 : 0, 1);
                check.due(f + " is a number, if static", !isStatic || f.getType() == int.class || f.getType() == long.class ? 1 : 0, 1);
                own += isStatic ? 0 : 1;
            }
            check.due(c + " has twenty fields at most", own <= 20 ? 1 : 0, 1);
        }
    }

    private static String withoutComments(String source) {
        return source.replaceAll("(?s)/\\*.*?\\*/", " ").replaceAll("//[^\n]*", " ");
    }

    private static void words(String code) {
        check.part("rules 2, 4, 6 and 13");
        String[] never = {"throw", "try", "catch", "finally", "synchronized", "assert", "package", "import", "protected", "var", "String",
            "double", "float", "Object", "Thread", "nanoTime", "currentTimeMillis", "random", "hashCode", "toString"};
        for (String word : never) {
            check.due("the word " + word, Pattern.compile("\\b" + word + "\\b").matcher(code).find() ? 1 : 0, 0);
        }
        check.due("a lambda", code.contains("->") ? 1 : 0, 0);
        check.due("a method reference", code.contains("::") ? 1 : 0, 0);
        Matcher library = Pattern.compile("\\b(System|Math|Integer|Long)\\.(\\w+)").matcher(code);
        Set<String> fine = Set.of("System.arraycopy", "Math.max", "Math.min", "Integer.bitCount");
        while (library.find()) {
            check.due("the library's " + library.group(), fine.contains(library.group()) ? 1 : 0, 1);
        }
        for (int i = 0; i < code.length(); i++) {
            if (code.charAt(i) > 126) {
                check.due("sign at " + i, code.charAt(i), 126);
            }
        }
    }

    private static void methodsAreShort(String source) {
        check.part("rule 11");
        String[] lines = source.split("\n");
        int from = -1;
        String indent = "";
        for (int i = 0; i < lines.length; i++) {
            Matcher head = Pattern.compile("^( {4}| {8})(public|private)\\b.*\\) \\{$").matcher(lines[i]);
            if (head.find()) {
                from = i;
                indent = head.group(1);
            } else if (from >= 0 && lines[i].equals(indent + "}")) {
                check.due("lines of " + lines[from].trim(), i - from < 60 ? 1 : 0, 1);
                from = -1;
            }
        }
    }

    /** Methods are told apart by name alone, so what is found here is no less than what is so. */
    private static void callsAreShallow(String code) {
        check.part("rules 8 and 11");
        Map<String, String> bodies = new TreeMap<>();
        Matcher method = Pattern.compile("(?s)\n( {4}| {8})(?:public|private) (?:static )?\\w+ (\\w+)\\([^)]*\\) \\{\n(.*?)\n\\1\\}").matcher(code);
        while (method.find()) {
            bodies.merge(method.group(2), method.group(3), String::concat);
        }
        check.due("all of the face is found", bodies.size() > FACE.length ? 1 : 0, 1);
        for (String name : bodies.keySet()) {
            int deep = depth(name, bodies, DEEPEST + 1);
            check.due(name + "() goes eight deep at most", deep <= DEEPEST ? 1 : 0, 1);
            boolean itself = bodies.get(name).contains(" " + name + "(");
            check.due(name + "() calls itself", itself && !name.equals("tryFrom") ? 1 : 0, 0);
        }
    }

    private static int depth(String name, Map<String, String> bodies, int left) {
        int deepest = 0;
        Matcher called = Pattern.compile("(\\w+)\\(").matcher(bodies.get(name));
        while (left > 0 && called.find()) {
            String other = called.group(1);
            if (bodies.containsKey(other) && !other.equals(name)) {
                deepest = Math.max(deepest, depth(other, bodies, left - 1));
            }
        }
        return deepest + 1;
    }
}
