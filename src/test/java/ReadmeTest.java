import java.io.File;
import java.io.IOException;
import java.lang.reflect.InvocationTargetException;
import java.lang.reflect.Method;
import java.lang.reflect.Modifier;
import java.net.URL;
import java.net.URLClassLoader;
import java.nio.file.Files;
import java.nio.file.Path;
import java.util.ArrayList;
import java.util.List;
import java.util.Set;
import java.util.TreeSet;
import java.util.regex.Matcher;
import java.util.regex.Pattern;
import java.util.stream.Collectors;
import java.util.stream.Stream;
import javax.tools.ToolProvider;

/** What README.md says is so: its example is run, its commands too, and its tables are held against what there is. */
public final class ReadmeTest {
    private static final Checks CHECKS = new Checks();
    private static final Path README = Path.of("README.md");
    /** A call of the example, its answer or its exception, and words behind a colon. */
    private static final Pattern ANSWERED = Pattern.compile("(choir\\..*); +// ([^ ]+): .*");
    private static final Pattern NAMED = Pattern.compile("`(\\w+)`");

    public static void main(String[] args) throws Exception {
        String text = Files.readString(README);
        Path folder = Files.createTempDirectory("readme");
        try {
            example(block(text, "java"), folder);
            numbers(text);
            calls(text);
            tests(text);
            commands(text, folder);
        } finally {
            empty(folder);
        }
        CHECKS.close();
    }

    private static void empty(Path folder) throws IOException {
        try (Stream<Path> files = Files.walk(folder)) {
            files.map(Path::toFile).sorted((a, b) -> b.compareTo(a)).forEach(File::delete);
        }
    }

    private static List<String> block(String text, String language) {
        Matcher matcher = Pattern.compile("```" + language + "\n(.*?)```", Pattern.DOTALL).matcher(text);
        CHECKS.holds("a block of " + language, matcher.find());
        return matcher.group(1).lines().toList();
    }

    /** The lines are compiled as they stand, but that each answer is noted. */
    private static void example(List<String> lines, Path folder) throws Exception {
        StringBuilder source = new StringBuilder("public final class Example {\n"
            + "public static java.util.List<String> run() {\n"
            + "java.util.List<String> got = new java.util.ArrayList<>();\n");
        List<String> due = new ArrayList<>();
        for (String line : lines) {
            Matcher matcher = ANSWERED.matcher(line);
            if (matcher.matches()) {
                due.add(matcher.group(1) + " " + matcher.group(2));
                String call = "\"" + matcher.group(1).replace("\"", "\\\"") + " \"";
                source.append("try { got.add(" + call + " + " + matcher.group(1) + "); }\n"
                    + "catch (RuntimeException e) { got.add(" + call + " + e.getClass().getSimpleName()); }\n");
            } else {
                source.append(line).append('\n');
            }
        }
        source.append("return got;\n}\n}\n");
        Path file = folder.resolve("Example.java");
        Files.writeString(file, source);
        int failed = ToolProvider.getSystemJavaCompiler().run(null, null, null, "-d", folder.toString(),
            "-proc:none", "-implicit:none", "-cp", System.getProperty("java.class.path"), file.toString());
        CHECKS.compare("the example is compiled", 0, failed);
        if (failed == 0) {
            CHECKS.compare("the example", due, run(folder));
        }
        CHECKS.holds("answers in the example: " + due.size(), due.size() > 10);
    }

    private static Object run(Path folder) throws Exception {
        try (URLClassLoader loader = new URLClassLoader(new URL[] {folder.toUri().toURL()})) {
            return loader.loadClass("Example").getMethod("run").invoke(null);
        } catch (InvocationTargetException e) {
            return e.getCause();
        }
    }

    private static OddChoir someChoir() {
        OddChoir x = new OddChoir();
        Choirs.fill(x, 0, 180, 160, 170, 150);
        Choirs.fill(x, 1, 175, 165);
        return x;
    }

    /** Each number of the table is taken by its call, and each one that the table leaves empty is refused. */
    private static void numbers(String text) {
        OddChoir x = someChoir();
        List<String> rows = text.lines().filter(line -> line.matches("\\| \\d .*")).toList();
        CHECKS.compare("numbers for what", 9, rows.size());
        for (String row : rows) {
            String[] cells = row.split("\\|", -1);
            int what = Integer.parseInt(cells[1].trim());
            CHECKS.compare("singer has " + what, !cells[2].isBlank(), taken(() -> x.singer(0, 1, what)));
            CHECKS.compare("row has " + what, !cells[3].isBlank(), taken(() -> x.row(0, what)));
            CHECKS.compare("count has " + what, !cells[4].isBlank(), taken(() -> x.count(what)));
        }
        CHECKS.compare("singer has 9", false, taken(() -> x.singer(0, 1, 9)));
        CHECKS.compare("count has 9", false, taken(() -> x.count(9)));
    }

    private static boolean taken(Checks.Call call) {
        try {
            call.answer();
            return true;
        } catch (IllegalArgumentException e) {
            return false;
        }
    }

    private static Set<String> firstCells(String text, String from, String to) {
        Set<String> names = new TreeSet<>();
        String part = text.substring(Math.max(0, text.indexOf(from)), text.indexOf(to));
        part.lines().filter(line -> line.startsWith("| `")).forEach(line -> {
            Matcher matcher = NAMED.matcher(line.split("\\|")[1]);
            while (matcher.find()) {
                CHECKS.holds(matcher.group(1) + " is named once", names.add(matcher.group(1)));
            }
        });
        return names;
    }

    private static void calls(String text) {
        Set<String> face = new TreeSet<>();
        for (Method method : OddChoir.class.getDeclaredMethods()) {
            if (Modifier.isPublic(method.getModifiers())) {
                face.add(method.getName());
            }
        }
        CHECKS.compare("the calls", face, firstCells(text, "| calls |", "| `what` |"));
    }

    private static void tests(String text) throws IOException {
        try (Stream<Path> files = Files.list(Path.of("src", "test", "java"))) {
            Set<String> due = files.map(file -> file.getFileName().toString())
                .filter(name -> name.endsWith("Test.java")).map(name -> name.replace(".java", ""))
                .collect(Collectors.toCollection(TreeSet::new));
            CHECKS.compare("the tests", due, firstCells(text, "## Tests", "`Model` is"));
        }
        CHECKS.holds(".ci/run can be run", Files.isExecutable(Path.of(".ci", "run")));
    }

    /** They are run as they stand, but that what they compile goes to a folder that is taken away again. */
    private static void commands(String text, Path folder) throws Exception {
        List<String> lines = new ArrayList<>(block(text, "sh"));
        Matcher matcher = Pattern.compile("`(javac [^`]*)`").matcher(text);
        CHECKS.holds("how to compile the class", matcher.find());
        lines.add(0, matcher.group(1));
        for (String line : lines) {
            Process process = new ProcessBuilder("sh", "-c", line.replace(" out", " " + folder.resolve("out")))
                .redirectErrorStream(true).start();
            String said = new String(process.getInputStream().readAllBytes());
            CHECKS.compare(line + " (" + said.strip() + ")", 0, process.waitFor());
        }
    }
}
