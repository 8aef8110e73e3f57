import java.io.IOException;
import java.lang.reflect.Constructor;
import java.lang.reflect.Field;
import java.lang.reflect.Method;
import java.lang.reflect.Modifier;
import java.nio.file.Files;
import java.nio.file.Path;
import java.util.ArrayList;
import java.util.Arrays;
import java.util.List;
import java.util.Random;
import java.util.Set;
import java.util.TreeSet;
import java.util.regex.Matcher;
import java.util.regex.Pattern;

/** The face that the document tells, the rules of the language that a test can see, and calls with odd numbers. */
public final class FaceTest {
    private static int wrong;

    private static void must(boolean good, String what) {
        if (good) return;
        wrong++;
        System.out.println(what);
    }

    private static Path root() {
        return Path.of(System.getProperty("project.root", "."));
    }

    private static Set<String> faceOfDocument() throws IOException {
        String doc = Files.readString(root().resolve("../shared/DOC.md"));
        Set<String> face = new TreeSet<>();
        Matcher m = Pattern.compile("^    public int (\\w+)\\((.*)\\);$", Pattern.MULTILINE).matcher(doc);
        while (m.find()) face.add(m.group(1) + " " + (m.group(2).isEmpty() ? 0 : m.group(2).split(",").length));
        return face;
    }

    private static void face() throws IOException {
        Set<String> found = new TreeSet<>();
        Set<String> names = new TreeSet<>();
        for (Method m : HearingBoards.class.getDeclaredMethods()) {
            if (!Modifier.isPublic(m.getModifiers())) continue;
            found.add(m.getName() + " " + m.getParameterCount());
            names.add(m.getName());
            must(m.getReturnType() == int.class && !Modifier.isStatic(m.getModifiers()), m + " is not of the face");
            for (Class<?> type : m.getParameterTypes()) must(type == int.class, m + " takes more than ints");
        }
        must(found.size() == 49 && found.equals(faceOfDocument()), "the methods are not those of the document: " + found);
        must(Modifier.isFinal(HearingBoards.class.getModifiers()), "the class is not final");
        Constructor<?>[] made = HearingBoards.class.getDeclaredConstructors();
        must(made.length == 1 && Modifier.isPublic(made[0].getModifiers()) && made[0].getParameterCount() == 0, "its constructor is another one");
        Set<String> constants = new TreeSet<>();
        for (Field f : HearingBoards.class.getDeclaredFields()) {
            if (Modifier.isPublic(f.getModifiers())) constants.add(f.getName());
            else must(Modifier.isPrivate(f.getModifiers()), f + " is neither public nor private");
            must(!Modifier.isStatic(f.getModifiers()) || Modifier.isFinal(f.getModifiers()), f + " is static, but not final");
        }
        must(constants.equals(Set.of("BAD", "NO", "FULL", "NONE", "NOTHING", "KIND", "INDEX", "SIZE")), "the constants are " + constants);
        hidden(names);
    }

    /** Line by line as the document writes it: constants with their values, names of what is taken, the order. */
    private static void faceAsWritten() throws IOException {
        String doc = Files.readString(root().resolve("../shared/DOC.md"));
        String written = doc.substring(doc.indexOf("```java\n") + 8, doc.indexOf("```\n\n## Terms"));
        List<String> want = publicLines(written);
        List<String> got = publicLines(Files.readString(root().resolve("src/main/java/HearingBoards.java")));
        must(want.size() == 52, "the document's face has " + want.size() + " lines");
        for (int i = 0; i < Math.max(want.size(), got.size()); i++) {
            String line = i < got.size() ? got.get(i) : "nothing";
            must(i < want.size() && line.equals(want.get(i)), "the face has " + line + ", not " + (i < want.size() ? want.get(i) : "nothing"));
        }
        headings(doc, Files.readString(root().resolve("src/main/java/HearingBoards.java")));
    }

    private static List<String> publicLines(String text) {
        List<String> lines = new ArrayList<>();
        for (String line : text.split("\n")) {
            if (line.strip().startsWith("public ")) lines.add(line.replaceFirst("( \\{|;)$", ""));
        }
        return lines;
    }

    /** 'Ahead of the calls .. the interface says: ---- ..' */
    private static void headings(String doc, String source) {
        Matcher ahead = Pattern.compile("^Ahead of the calls (.*) the interface says: (---- .*)\\.$", Pattern.MULTILINE).matcher(doc);
        int many = 0;
        while (ahead.find()) {
            many++;
            int from = source.indexOf("    // " + ahead.group(2) + "\n");
            must(from >= 0, "the source does not say " + ahead.group(2));
            int to = source.indexOf("    // ----", from + 1);
            List<String> calls = new ArrayList<>();
            Matcher call = Pattern.compile("^    public int (\\w+)\\(", Pattern.MULTILINE).matcher(source.substring(Math.max(0, from), Math.max(0, to)));
            while (call.find()) calls.add("`" + call.group(1) + "`");
            must(String.join(", ", calls).equals(ahead.group(1)), "behind " + ahead.group(2) + " stand " + calls);
        }
        must(many == 6, "the document has " + many + " headings");
    }

    private static void hidden(Set<String> names) {
        List<Class<?>> all = new ArrayList<>(Arrays.asList(HearingBoards.class.getDeclaredClasses()));
        must(all.size() <= 12, "there are " + all.size() + " classes inside");
        for (Class<?> c : all) {
            must(Modifier.isStatic(c.getModifiers()) && !Modifier.isPublic(c.getModifiers()), c + " is public or not static");
            must(c.getDeclaredFields().length <= 40, c + " has many fields");
        }
        all.add(HearingBoards.class);
        for (Class<?> c : all) {
            for (Method m : c.getDeclaredMethods()) {
                must(m.getParameterCount() <= 7, m + " takes too much");
                boolean face = c == HearingBoards.class && Modifier.isPublic(m.getModifiers());
                must(face || !names.contains(m.getName()), m + " bears a name of the face");
                must(face || !Modifier.isPublic(m.getModifiers()), m + " is public");
                if (c == HearingBoards.class) must(face || Modifier.isPrivate(m.getModifiers()), m + " is not private");
            }
        }
    }

    private static void source() throws IOException {
        String text = Files.readString(root().resolve("src/main/java/HearingBoards.java"));
        must(text.chars().allMatch(c -> c == '\n' || c >= 32 && c < 127), "the source has other signs than plain ones");
        String code = text.replaceAll("(?s)/\\*.*?\\*/", " ").replaceAll("//[^\n]*", " ").replaceAll("\"[^\"]*\"", "\"\"").replaceAll("'[^']*'", "' '");
        for (String word : List.of("throw", "throws", "try", "catch", "finally", "synchronized", "assert", "native", "volatile", "transient", "var",
                "protected", "package", "record", "equals", "hashCode", "double", "float", "Exact", "Object", "Thread", "Random", "System\\.(?!arraycopy)")) {
            must(!Pattern.compile("\\b" + word + (word.contains("\\.") ? "" : "\\b")).matcher(code).find(), "the source has the word " + word);
        }
        must(!code.contains("->") && !code.contains("::"), "the source has a lambda or a method reference");
        Matcher imports = Pattern.compile("import ([^;]+);").matcher(code);
        while (imports.find()) must(imports.group(1).equals("java.util.Arrays"), "it imports " + imports.group(1));
        methodsAreShort(code);
    }

    private static void methodsAreShort(String code) {
        String[] lines = code.split("\n");
        int start = -1;
        for (int i = 0; i < lines.length; i++) {
            if (lines[i].matches("(    |        )\\w.*\\) \\{\\s*")) start = i;
            if (lines[i].matches("(    |        )\\}\\s*") && start >= 0) {
                must(i - start < 60, "too long: " + lines[start]);
                start = -1;
            }
        }
    }

    /** Numbers at and beyond every limit; no call may throw, and each answer must come again from another object. */
    private static void oddNumbers() throws ReflectiveOperationException {
        int[] odd = {Integer.MIN_VALUE, Integer.MIN_VALUE + 1, -1000000000, -100, -99, -2, -1, 0, 0, 0, 1, 1, 2, 3, 4, 5, 6, 7, 8, 9, 11, 12, 23, 24,
            29, 30, 31, 32, 60, 63, 64, 95, 96, 127, 255, 999, 2999, 3000, 9999, 10000, 65535, 65536, 0x6C657420, 0x31203120, Integer.MAX_VALUE - 1, Integer.MAX_VALUE};
        List<Method> face = new ArrayList<>();
        for (Method m : HearingBoards.class.getDeclaredMethods()) if (Modifier.isPublic(m.getModifiers())) face.add(m);
        face.sort((a, b) -> a.getName().compareTo(b.getName()));
        Random random = new Random(4711);
        for (int run = 0; run < 300; run++) {
            HearingBoards one = new HearingBoards();
            HearingBoards other = new HearingBoards();
            for (int i = 0; i < 512; i++) {
                Method m = face.get(random.nextInt(face.size()));
                Object[] args = new Object[m.getParameterCount()];
                for (int j = 0; j < args.length; j++) args[j] = odd[random.nextInt(odd.length)];
                must(m.invoke(one, args).equals(m.invoke(other, args)), m.getName() + Arrays.toString(args) + " has two answers");
            }
        }
    }

    public static void main(String[] args) throws IOException, ReflectiveOperationException {
        face();
        faceAsWritten();
        source();
        oddNumbers();
        System.out.println(wrong == 0 ? "the face and the language are as told" : wrong + " things are not as told");
        if (wrong != 0) System.exit(1);
    }
}
