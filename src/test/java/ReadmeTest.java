import java.io.IOException;
import java.io.StringWriter;
import java.lang.reflect.Method;
import java.lang.reflect.Modifier;
import java.net.URL;
import java.net.URLClassLoader;
import java.nio.file.Files;
import java.nio.file.Path;
import java.util.List;
import java.util.Set;
import java.util.TreeSet;
import java.util.regex.Matcher;
import java.util.regex.Pattern;
import java.util.stream.Stream;
import javax.tools.JavaCompiler;
import javax.tools.StandardJavaFileManager;
import javax.tools.ToolProvider;

/** README.md: its examples answer what stands behind them, and it leaves out no call, constant, refusal or test. */
public final class ReadmeTest {
    private static final Path ROOT = Path.of(System.getProperty("project.root", "."));
    private static final Pattern BLOCK = Pattern.compile("(?ms)^```java\n(.*?)^```$");
    /** A line of an example: perhaps a name for the answer, the call, and the answer that is due. */
    private static final Pattern EXAMPLE = Pattern.compile("(int \\w+ = )?(\\w.*\\));\\s*// (-?\\d+|[A-Z]+)\\b.*");
    private static final String MADE = "HearingBoards x = new HearingBoards();";

    private static int examples;
    private static int wrong;

    private static void must(boolean good, String what) {
        if (good) return;
        wrong++;
        System.out.println("README.md: " + what);
    }

    /** What the examples call with each answer; public, because their class is loaded apart from this one. */
    public static int due(String call, int got, int want) {
        examples++;
        must(got == want, call + " answers " + got + ", not " + want);
        return got;
    }

    // ---- the examples

    private static String program(String readme) {
        StringBuilder helpers = new StringBuilder();
        StringBuilder lines = new StringBuilder();
        Matcher blocks = BLOCK.matcher(readme);
        while (blocks.find()) {
            String block = blocks.group(1);
            if (block.startsWith("static ")) helpers.append(block);
            else for (String line : block.split("\n")) lines.append(checked(line)).append('\n');
        }
        return "import java.nio.*; import java.nio.charset.*; import java.util.*;\n"
            + "public final class Examples {\n" + helpers + "public static void main(String[] args) {\n" + lines + "}\n}\n";
    }

    private static String checked(String line) {
        if (line.equals(MADE)) return line;
        Matcher m = EXAMPLE.matcher(line);
        if (!m.matches()) {
            must(false, "an example without an answer: " + line);
            return "";
        }
        String named = m.group(1) == null ? "" : m.group(1);
        String want = m.group(3).matches("[A-Z]+") ? "HearingBoards." + m.group(3) : m.group(3);
        return named + "ReadmeTest.due(\"" + m.group(2).replace("\"", "'") + "\", " + m.group(2) + ", " + want + ");";
    }

    private static void examples(String readme) throws IOException, ReflectiveOperationException {
        Path out = Files.createTempDirectory("examples");
        Path source = Files.writeString(out.resolve("Examples.java"), program(readme));
        JavaCompiler javac = ToolProvider.getSystemJavaCompiler();
        StringWriter told = new StringWriter();
        boolean compiled;
        try (StandardJavaFileManager files = javac.getStandardFileManager(null, null, null)) {
            List<String> options = List.of("-d", out.toString(), "-cp", System.getProperty("java.class.path"));
            compiled = javac.getTask(told, files, null, options, null, files.getJavaFileObjects(source)).call();
        }
        must(compiled, "the examples do not compile:\n" + told);
        if (compiled) {
            try (URLClassLoader loader = new URLClassLoader(new URL[] {out.toUri().toURL()}, ReadmeTest.class.getClassLoader())) {
                loader.loadClass("Examples").getMethod("main", String[].class).invoke(null, (Object) new String[0]);
            }
        }
        try (Stream<Path> made = Files.list(out)) {
            for (Path file : made.toList()) Files.delete(file);
        }
        Files.delete(out);
    }

    // ---- what it may not leave out

    private static void namesAllCalls(String readme) {
        for (Method m : HearingBoards.class.getDeclaredMethods()) {
            if (!Modifier.isPublic(m.getModifiers())) continue;
            must(readme.contains("`" + m.getName() + "`"), "it does not tell of " + m.getName());
            must(readme.contains("x." + m.getName() + "("), "it has no example of " + m.getName());
        }
    }

    private static void namesAllTests(String readme) throws IOException {
        must(readme.contains(".ci/run"), "it does not tell how to run the tests");
        try (Stream<Path> files = Files.list(ROOT.resolve("src/test/java"))) {
            for (Path file : files.toList()) {
                String name = file.getFileName().toString();
                must(readme.contains(name), "it does not tell of " + name);
            }
        }
    }

    /** The calls that can answer a constant are, in its row of the table, those whose promises name it. */
    private static void namesAllRefusals(String readme) throws IOException {
        String document = Files.readString(ROOT.resolve("../shared/DOC.md"));
        for (String constant : List.of("NO", "FULL", "NOTHING", "KIND", "INDEX", "SIZE", "NONE")) {
            Matcher row = Pattern.compile("(?m)^\\| `" + constant + "` +\\|[^|]*\\|([^|]*)\\|$").matcher(readme);
            if (!row.find()) {
                must(false, "there is no row for " + constant);
                continue;
            }
            Set<String> told = found("`(\\w+)`", row.group(1));
            Set<String> due = new TreeSet<>();
            Matcher promise = Pattern.compile("(?ms)^## Promise \\d+: (\\w+)\n\n`[^`]*`:(.*?)(?=^## )").matcher(document);
            while (promise.find()) {
                if (refuses(promise.group(2), constant)) due.add(promise.group(1));
            }
            must(!due.isEmpty() && told.equals(due), constant + " is answered by " + due + ", not by " + told);
        }
    }

    /** KIND is also what papers have; as an answer it stands behind another one and has a reason. */
    private static boolean refuses(String promise, String constant) {
        String word = constant.equals("KIND") ? "; KIND:" : "(?<![A-Z])" + constant + "(?![A-Z])";
        return Pattern.compile(word).matcher(promise).find();
    }

    private static Set<String> found(String pattern, String text) {
        Set<String> all = new TreeSet<>();
        Matcher m = Pattern.compile(pattern).matcher(text);
        while (m.find()) all.add(m.group(1));
        return all;
    }

    public static void main(String[] args) throws IOException, ReflectiveOperationException {
        String readme = Files.readString(ROOT.resolve("README.md"));
        examples(readme);
        namesAllCalls(readme);
        namesAllTests(readme);
        namesAllRefusals(readme);
        must(examples > 0, "it has no examples");
        System.out.println(examples + " examples, " + wrong + " things in README.md not as told");
        if (wrong != 0) System.exit(1);
    }
}
