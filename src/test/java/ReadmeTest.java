import java.io.ByteArrayOutputStream;
import java.io.IOException;
import java.io.PrintStream;
import java.lang.reflect.Method;
import java.lang.reflect.Modifier;
import java.net.URL;
import java.net.URLClassLoader;
import java.nio.charset.StandardCharsets;
import java.nio.file.Files;
import java.nio.file.Path;
import java.util.ArrayList;
import java.util.List;
import java.util.Set;
import java.util.TreeSet;
import java.util.regex.Matcher;
import java.util.regex.Pattern;
import java.util.stream.Stream;
import javax.tools.JavaCompiler;
import javax.tools.ToolProvider;

/** What README.md shows: its program and what this prints, its rows of calls, and its way to run the tests. */
public final class ReadmeTest {
    private static final Check CHECK = new Check();
    private static final Pattern ROW = Pattern.compile("(?m)^\\| `(x\\..*)` \\| `(-?\\d+|true|false)` \\| .+ \\|$");

    public static void main(String[] args) throws Exception {
        Path root = Path.of(args[0]);
        String page = Files.readString(root.resolve("README.md"));
        runningTheTests(root, page);
        testsNamed(root, page);
        linesOfTexts(page);
        Path made = Files.createTempDirectory("readme");
        try {
            List<String[]> rows = rows(page);
            everyCallIsShown(rows);
            use(made, page, rows);
        } finally {
            remove(made);
        }
        CHECK.finish();
    }

    private static void runningTheTests(Path root, String page) {
        CHECK.due("the way to run the tests is .ci/run", block(page, "sh").equals(".ci/run\n"), true);
        CHECK.due(".ci/run can be run", Files.isExecutable(root.resolve(".ci/run")), true);
    }

    /** The tests that the page names are those that there are. */
    private static void testsNamed(Path root, String page) throws IOException {
        Set<String> named = new TreeSet<>();
        Matcher m = Pattern.compile("`(\\w+Test)`").matcher(page);
        while (m.find()) {
            named.add(m.group(1));
        }
        Set<String> there = new TreeSet<>();
        try (Stream<Path> files = Files.list(root.resolve("src/test/java"))) {
            files.map(file -> file.getFileName().toString()).filter(name -> name.endsWith("Test.java"))
                .forEach(name -> there.add(name.substring(0, name.length() - 5)));
        }
        CHECK.due("tests named " + named + ", there " + there, named.equals(there), true);
        m = Pattern.compile("`(helpers/\\w+\\.java)`").matcher(page);
        while (m.find()) {
            CHECK.due(m.group(1) + " is there", Files.exists(root.resolve("src/test/java").resolve(m.group(1))), true);
        }
    }

    /** Each line that the page shows of a sort is one of its texts, and of no other sort's. */
    private static void linesOfTexts(String page) {
        int[] lines = new int[4];
        for (int sort = 0; sort < 4; sort++) {
            Matcher row = Pattern.compile("(?m)^\\| " + sort + " \\| \\w+ \\| (.*) \\|$").matcher(page);
            CHECK.due("lines of sort " + sort, row.find(), true);
            Matcher line = Pattern.compile("`([^`]*)`").matcher(row.group(1));
            while (line.find()) {
                lines[sort]++;
                String text = line.group(1).replace("GOOSE GOOSE", "0 1").replaceAll("[A-Z]+", "1");
                for (int other = 0; other < 4; other++) {
                    int taken = Teller.tell(new GooseBorder(), other, GooseBorder.NONE, text);
                    CHECK.due("'" + text + "' of sort " + other, taken, other == sort ? 0 : GooseBorder.NONE);
                }
            }
        }
        CHECK.due("lines shown", lines[0] * 1000 + lines[1] * 100 + lines[2] * 10 + lines[3], 3951);
    }

    private static void everyCallIsShown(List<String[]> rows) {
        for (Method call : GooseBorder.class.getDeclaredMethods()) {
            if (Modifier.isPublic(call.getModifiers())) {
                boolean shown = rows.stream().anyMatch(row -> row[0].startsWith("x." + call.getName() + "("));
                CHECK.due(call.getName() + " is shown", shown, true);
            }
        }
    }

    private static void use(Path made, String page, List<String[]> rows) throws Exception {
        Path use = Files.writeString(made.resolve("Use.java"), block(page, "java"));
        Path asked = Files.writeString(made.resolve("Rows.java"), program(rows));
        JavaCompiler javac = ToolProvider.getSystemJavaCompiler();
        int failed = javac.run(null, null, null, "-encoding", "UTF-8", "-cp", System.getProperty("java.class.path"),
            "-d", made.toString(), use.toString(), asked.toString());
        CHECK.due("what the page shows compiles", failed, 0);
        if (failed != 0) {
            return;
        }
        try (URLClassLoader loader = new URLClassLoader(new URL[] {made.toUri().toURL()})) {
            String printed = printed(loader, "Use");
            CHECK.due("the program printed\n" + printed, printed.equals(block(page, "text")), true);
            String[] answers = printed(loader, "Rows").split("\n");
            CHECK.due("answers", answers.length, rows.size());
            for (int i = 0; i < Math.min(answers.length, rows.size()); i++) {
                String call = rows.get(i)[0] + " answered " + answers[i] + ", shown is " + rows.get(i)[1];
                CHECK.due(call, answers[i].equals(rows.get(i)[1]), true);
            }
        }
    }

    private static List<String[]> rows(String page) {
        List<String[]> rows = new ArrayList<>();
        Matcher m = ROW.matcher(page);
        while (m.find()) {
            rows.add(new String[] {m.group(1), m.group(2)});
        }
        long marked = page.lines().filter(line -> line.startsWith("| `x.")).count();
        CHECK.due("each row of calls can be read", rows.size(), marked);
        return rows;
    }

    private static String program(List<String[]> rows) {
        StringBuilder s = new StringBuilder("public final class Rows {\n    public static void main(String[] args) {\n");
        s.append("        GooseBorder x = Use.example();\n");
        for (String[] row : rows) {
            s.append("        System.out.println(").append(row[0]).append(");\n");
        }
        return s.append("    }\n}\n").toString();
    }

    private static String printed(ClassLoader loader, String name) throws Exception {
        PrintStream out = System.out;
        ByteArrayOutputStream bytes = new ByteArrayOutputStream();
        System.setOut(new PrintStream(bytes, true, StandardCharsets.UTF_8));
        try {
            loader.loadClass(name).getMethod("main", String[].class).invoke(null, (Object) new String[0]);
        } finally {
            System.setOut(out);
        }
        return bytes.toString(StandardCharsets.UTF_8).replace(System.lineSeparator(), "\n");
    }

    /** The one block of a kind that the page has. */
    private static String block(String page, String kind) {
        Matcher m = Pattern.compile("(?ms)^```" + kind + "\n(.*?)^```$").matcher(page);
        boolean there = m.find();
        CHECK.due("a block of " + kind, there, true);
        String found = there ? m.group(1) : "";
        CHECK.due("one block of " + kind, there && m.find(), false);
        return found;
    }

    private static void remove(Path folder) throws IOException {
        try (Stream<Path> files = Files.list(folder)) {
            for (Path file : files.toList()) {
                Files.delete(file);
            }
        }
        Files.delete(folder);
    }
}
