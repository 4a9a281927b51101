import java.io.IOException;
import java.lang.reflect.Method;
import java.lang.reflect.Modifier;
import java.net.URL;
import java.net.URLClassLoader;
import java.nio.charset.StandardCharsets;
import java.nio.file.Files;
import java.nio.file.Path;
import java.util.ArrayList;
import java.util.List;
import java.util.Set;
import java.util.TreeSet;
import java.util.regex.Matcher;
import java.util.regex.Pattern;
import java.util.stream.Collectors;
import java.util.stream.Stream;
import javax.tools.JavaCompiler;
import javax.tools.ToolProvider;

/**
 * What README.md says holds: its code compiles as it stands there, and every
 * call in it answers what is written beside it; its tables name what there is;
 * the command that it names is there.
 */
public final class ReadmeTest {
    private static final Path README = Path.of("README.md");
    private static final Pattern BLOCK = Pattern.compile("(?s)```java\n(.*?)```");
    private static final Pattern CALL = Pattern.compile("(x\\.(\\w+)\\(.*?\\)); +// (-?\\d+|[A-Z]+): .*");
    private static final String MADE = "ReadmeCode";

    private static final Check check = new Check("ReadmeTest");

    /** The code of the page, turned into one that is compiled, tells its answers here. */
    public static void answered(String call, int got, int want) {
        check.due(call, got, want);
    }

    public static void main(String[] args) throws IOException, ReflectiveOperationException {
        String page = Files.readString(README, StandardCharsets.UTF_8);
        code(page);
        faults(page);
        values(page);
        names(page);
        command(page);
        check.end();
    }

    private static void code(String page) throws IOException, ReflectiveOperationException {
        check.part("the code of the page");
        StringBuilder body = new StringBuilder();
        Set<String> called = new TreeSet<>(Set.of("feed"));
        int calls = 0;
        Matcher block = BLOCK.matcher(page);
        while (block.find()) {
            for (String line : block.group(1).split("\n")) {
                Matcher call = CALL.matcher(line);
                if (call.matches()) {
                    called.add(call.group(2));
                    calls++;
                    body.append(answer(call)).append('\n');
                } else {
                    check.due("an answer beside " + line, line.startsWith("x.") ? 0 : 1, 1);
                    body.append(line).append('\n');
                }
            }
        }
        check.due("calls with an answer, more than the face has", calls > face().size() ? 1 : 0, 1);
        check.due("the page calls all of " + face(), called.equals(face()) ? 1 : 0, 1);
        run(body.toString());
    }

    private static String answer(Matcher call) {
        String want = call.group(3);
        String value = Character.isLetter(want.charAt(0)) ? "KingRansom." + want : want;
        String name = call.group(1).replace("\"", "'");
        return "ReadmeTest.answered(\"" + name + "\", " + call.group(1) + ", " + value + ");";
    }

    private static Set<String> face() {
        return Stream.of(KingRansom.class.getDeclaredMethods()).filter(m -> Modifier.isPublic(m.getModifiers())).map(Method::getName)
            .collect(Collectors.toCollection(TreeSet::new));
    }

    private static void run(String body) throws IOException, ReflectiveOperationException {
        Path room = Files.createTempDirectory("readme");
        Path source = room.resolve(MADE + ".java");
        try {
            Files.writeString(source, "public final class " + MADE + " {\n    public static void run() {\n" + body + "    }\n}\n");
            JavaCompiler compiler = ToolProvider.getSystemJavaCompiler();
            int compiled = compiler.run(null, null, null, "-cp", System.getProperty("java.class.path"), "-d", room.toString(), source.toString());
            check.due("compiling it", compiled, 0);
            if (compiled == 0) {
                try (URLClassLoader loader = new URLClassLoader(new URL[] {room.toUri().toURL()}, ReadmeTest.class.getClassLoader())) {
                    loader.loadClass(MADE).getMethod("run").invoke(null);
                }
            }
        } finally {
            Files.deleteIfExists(source);
            Files.deleteIfExists(room.resolve(MADE + ".class"));
            Files.deleteIfExists(room);
        }
    }

    private static void faults(String page) {
        check.part("the table of faults");
        List<String[]> rows = table(page, "| text |");
        check.due("its rows", rows.size() >= 4 ? 1 : 0, 1);
        for (String[] row : rows) {
            String text = bare(row[0]);
            KingRansom x = Check.of("k5 5;");
            check.due("ransom() of '" + text + "'", Check.tell(x, text), Integer.parseInt(row[1]));
            check.due("fault() of '" + text + "'", x.fault(), Integer.parseInt(row[2]));
            check.due("told(0) behind '" + text + "'", x.told(0), row[1].startsWith("-") ? 5 : 0);
        }
    }

    private static void values(String page) throws ReflectiveOperationException {
        check.part("the table of refusals");
        List<String[]> rows = table(page, "| name |");
        check.due("its rows", rows.size(), 4);
        for (String[] row : rows) {
            check.due(row[0], KingRansom.class.getField(bare(row[0])).getInt(null), Integer.parseInt(row[1]));
        }
        check.due("`NONE`, -1,", page.contains("`NONE`, " + KingRansom.NONE + ",") ? 1 : 0, 1);
    }

    private static void names(String page) throws IOException {
        check.part("the tables of classes and tests");
        Set<String> inside = Stream.of(KingRansom.class.getDeclaredClasses()).map(Class::getSimpleName).collect(Collectors.toSet());
        check.due("the classes are " + inside, firsts(page, "| class |").equals(inside) ? 1 : 0, 1);
        try (Stream<Path> files = Files.list(Path.of("src/test/java"))) {
            Set<String> tests = files.map(file -> file.getFileName().toString()).filter(name -> name.endsWith("Test.java"))
                .map(name -> name.substring(0, name.length() - ".java".length())).collect(Collectors.toSet());
            check.due("the tests are " + tests, firsts(page, "| test |").equals(tests) ? 1 : 0, 1);
        }
    }

    private static void command(String page) {
        check.part("the command that runs the tests");
        check.due("the page names .ci/run", page.contains("\n    .ci/run\n") ? 1 : 0, 1);
        check.due(".ci/run can be run", Files.isExecutable(Path.of(".ci/run")) ? 1 : 0, 1);
    }

    private static Set<String> firsts(String page, String head) {
        Set<String> names = new TreeSet<>();
        for (String[] row : table(page, head)) {
            names.add(bare(row[0]));
        }
        return names;
    }

    /** The rows of the table whose head begins so, each by its cells. */
    private static List<String[]> table(String page, String head) {
        List<String[]> rows = new ArrayList<>();
        int at = page.indexOf("\n" + head);
        String[] lines = at < 0 ? new String[0] : page.substring(at + 1).split("\n");
        for (int i = 2; i < lines.length && lines[i].startsWith("|"); i++) {
            String[] cells = lines[i].substring(1).split("\\|");
            for (int c = 0; c < cells.length; c++) {
                cells[c] = cells[c].trim();
            }
            rows.add(cells);
        }
        return rows;
    }

    private static String bare(String cell) {
        return cell.replace("`", "");
    }
}
