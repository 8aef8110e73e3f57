import java.io.IOException;
import java.nio.file.Files;
import java.nio.file.Path;
import java.util.ArrayList;
import java.util.List;
import java.util.function.ToIntFunction;
import java.util.regex.Matcher;
import java.util.regex.Pattern;
import java.util.stream.Stream;

/**
 * The document from its first line: what it tells beside the boundary cases, and that no words of its terms and
 * promises are left which no test quotes.
 */
public final class DocumentTest extends Edges {

    // ---- what it is

    private static void used() {
        atFirst("An object is used for at most 512 calls after it has been made");
        List<ToIntFunction<HearingBoards>> last = List.of(x -> x.person(1, 2, 3, 1), x -> x.sentence(1, 9, 0), x -> x.date(1), x -> x.unwind(0),
            x -> x.recall(0), x -> x.text(8, 3), x -> x.hearing(1, 40), x -> x.check(4), x -> x.run(60), x -> x.draw(), x -> x.restore(), x -> x.add(2, 1, 5));
        for (ToIntFunction<HearingBoards> call : last) {
            HearingBoards x = rich();
            times(350, () -> x.told(1, 5));
            due(call.applyAsInt(x), call.applyAsInt(rich()));
        }
        HearingBoards y = new HearingBoards();
        times(510, () -> y.count(TODAY));
        due(y.person(7, 5, 255, 1), 0);
        due(y.told(0, 2), 255);
    }

    // ---- terms

    private static void numbers() {
        terms("All numbers are whole; / cuts towards 0.");
        HearingBoards x = people(1);
        x.table(0, 1, 7);
        for (int again = 0; again < 30; again++) {
            x.table(0, 0, again);
            due(x.told(0, 7), 100 * again / 7);
        }
        due(x.rules(0, 0, 7, 0, 0, 0), 3);

        terms("NONE: there is none.");
        HearingBoards y = people(1);
        y.sentence(0, 9999, 0);
        y.paper(0, 0, 0);
        due(y.told(0, 9), NONE);
        due(y.date(0), NONE);
        due(y.why(0, 0), NONE);
        due(y.paperTold(0, 4), NONE);
        due(y.board(1, 0, 0), NONE);
        due(y.like(0, 2), NONE);
        due(y.spread(), NONE);
    }

    private static void sentences() {
        terms("given on a DAY (TODAY); ON TOP of the others of that CASE, or BESIDE them");
        HearingBoards x = people(2);
        x.sentence(0, 30, 0);
        x.sentence(1, 500, 1);
        x.run(10);
        x.sentence(0, 20, 0);
        due(x.told(0, 5), 30);
        x.sentence(0, 5, 1);
        due(x.told(0, 5), 35);
        x.sentence(0, 40, 0);
        due(x.told(0, 5), 45);
        due(x.told(1, 5), 500);
    }

    /** Each day by itself: in it or not, known or not. */
    private static void time() {
        terms("SERVED on a DAY: how many DAYS ahead of it lie in SPANS of the CASE and in no GAP of it (each once)");
        HearingBoards x = toDay(new HearingBoards(), 5);
        x.person(0, 0, 0, 0);
        x.person(0, 0, 0, 0);
        x.gap(0, 8, 12);
        x.gap(0, 10, 15);
        x.gap(1, 0, 100);
        toDay(x, 20).flee(0);
        toDay(x, 30).caught(0);
        x.gap(0, 33, 34);
        toDay(x, 40).gone(0);
        int served = 0;
        for (int day = 0; day < 60; day++) {
            due(x.served(0, day), served);
            boolean in = day >= 5 && day < 20 || day >= 30 && day < 40;
            boolean gap = day >= 8 && day < 15 || day == 33;
            if (in && !gap) served++;
        }
        due(x.served(1, 99), 0);

        terms("CREDIT of a CASE, as known on a DAY: all that were told on it or ahead of it together, but those below 0 that were given BACK by then");
        HearingBoards y = people(2);
        toDay(y, 3).credit(0, 10);
        toDay(y, 6).credit(0, -4);
        y.credit(1, 99);
        toDay(y, 9).credit(0, -3);
        toDay(y, 12).back(1);
        for (int day = 0; day < 20; day++) {
            int want = (day >= 3 ? 10 : 0) - (day >= 6 && day < 12 ? 4 : 0) - (day >= 9 ? 3 : 0);
            due(y.credits(0, day), want);
        }
    }

    private static void texts() {
        terms("from THE TAPE (96 bytes at most; an act that reads it uses it up, whatever it answers): KEY E.");
        HearingBoards x = people(1);
        due(law(x, "first 1"), 0);
        due(law(x, "1 first"), -100);
        due(law(x, "first"), -105);
        due(law(x, "first first 1"), -106);
        due(law(x, "let1"), -103);

        terms("(a word that needs a blank ahead of it");
        due(law(x, "first1"), -105);
        due(law(x, "first t+1t"), -109);
        due(law(x, "first(t)"), 1);

        terms("Of an OFFENCE and a KEY that TEXT counts on a DAY which is of that OFFENCE, or of all, and in force");
        HearingBoards y = people(1);
        law(y, "again 5", 3, 0);
        law(y, "again 6", 8, 2);
        law(y, "first 9", 4, 0);
        int[][] counting = {{0, 0, NONE, 28}, {0, 3, 0, 5}, {1, 4, NONE, 28}, {2, 0, 1, 6}, {2, 3, 1, 6}};
        for (int[] row : counting) {
            toDay(y, row[0]);
            due(y.why(row[1], 3), row[2]);
            due(y.rules(row[1], 3, 1, 0, 0, 0), row[3]);
        }
        due(y.why(4, 0), 2);

        terms("THE RULE of a KEY is what its E gives");
        law(y, "let (r - 20) * h / (c + 1) | s > 100 & !h", 8, 0);
        due(y.rules(0, 2, 50, 2, 5, 0), 1);
        due(y.rules(0, 2, 20, 2, 5, 0), 0);
        due(y.rules(0, 2, 20, 0, 5, 101), 1);
        due(y.rules(0, 2, 20, 1, 5, 101), 0);
        law(y, "unwind 100 - d * 3", 8, 0);
        due(y.rules(0, 4, 40, 0, 0, 0), -20);
    }

    private static void dueDays() {
        terms("DUE of a CASE on a DAY: whether SERVED on it, and CREDIT as known on it, together are THE RULE of first or more");
        HearingBoards x = people(1);
        x.sentence(0, 40, 0);
        x.gap(0, 4, 6);
        toDay(x, 3).credit(0, 5);
        for (int day = 0; day < 40; day++) {
            int served = Math.min(day, 4) + Math.max(0, day - 6);
            due(x.due(0, day), served + (day >= 3 ? 5 : 0) >= 20 ? 1 : 0);
        }
        due(x.date(0), 17);
    }

    private static void papersAndMembers() {
        terms("Each is of a CASE, with a number a");
        HearingBoards x = people(3);
        int[][] papers = {{0, 2, 0}, {1, 1, 30}, {2, 0, 12}, {3, 2, 77}, {4, 1, 3}};
        for (int[] row : papers) x.paper(row[0], row[1], row[2]);
        for (int i = 0; i < papers.length; i++) {
            for (int what = 0; what < 3; what++) due(x.paperTold(i, what), papers[i][what]);
        }

        terms("DAYS OFF (WEEKDAYS as bits), CONFLICTS (CASES as bits)");
        x.member(0b0100010, 0b101);
        x.conflict(0, 0, 1);
        x.conflict(0, 2, 1);
        due(x.is(0, 0), 0b0100010);
        due(x.is(0, 1), 0b101);
        due(x.is(0, 2), 0b101);

        terms("THE BOARD for a set of CASES at a PRISON on a DAY");
        times(3, () -> x.member(0, 63));
        due(x.board(0b010, 0, 0), 12);
        due(x.board(0b011, 0, 0), 123);
        due(x.board(0b010, 1, 0), 123);
        due(x.board(0b010, 0, 1), 123);
    }

    private static void hearings() {
        terms("0 SET, 1 HEARD, 2 LET, 3 VOID; how often PUT OFF, and the latest cause");
        HearingBoards x = ready(3);
        law(x, "let h", 8, 0);
        law(x, "again 2", 8, 0);
        x.hearing(0, 0);
        due(x.heard(0, 2), 0);
        x.run(1);
        for (int what = 0; what < 5; what++) due(x.heard(0, what), new int[] {0, 2, 0, 1, 3}[what]);
        x.paper(3, 0, 2);
        x.run(2);
        for (int what = 0; what < 5; what++) due(x.heard(0, what), new int[] {0, 2, 1, 1, 3}[what]);
        hear(x, 0);
        for (int what = 0; what < 5; what++) due(x.heard(1, what), new int[] {0, 3, 2, 0, 0}[what]);
        x.hearing(1, 4);
        x.gone(1);
        x.run(1);
        for (int what = 0; what < 5; what++) due(x.heard(2, what), new int[] {1, 4, 3, 0, 0}[what]);

        terms("RISK of a CASE: by TABLE (8 rows by how many MARKS it has");
        for (int row = 0; row < 8; row++) {
            x.table(row, 0, row + 1);
            x.table(row, 1, 10);
        }
        for (int marks = 0; marks < 256; marks++) {
            x.be(2, 2, marks);
            due(x.told(2, 7), Integer.bitCount(marks) % 8 * 10 + 10);
        }

        terms("LIKE CASES of a CASE: other CASES of its OFFENCE");
        x.be(2, 2, 1);
        due(x.like(2, 0), 2);
        due(x.like(2, 1), 1);
        due(x.like(2, 2), 50);
        due(x.like(0, 0), 0);
    }

    private static void drawsAndImages() {
        terms("BOARDS drawn: SEED (0 .. 65535) becomes 25173 times it and 13849, its rest by 65536, for each draw");
        HearingBoards x = new HearingBoards();
        times(8, () -> x.member(0, 63));
        x.seed(12345);
        long seed = 12345;
        for (int i = 0; i < 10; i++) {
            List<Integer> left = new ArrayList<>(List.of(0, 1, 2, 3, 4, 5, 6, 7));
            int want = 0;
            for (int j = 0; j < 6; j++) {
                seed = (25173 * seed + 13849) % 65536;
                int member = left.remove((int) (seed % left.size()));
                want += (1 << member) * (j < 3 ? 1 : 512);
            }
            due(x.draw(), want);
            due(x.count(SEED), (int) seed);
        }

        terms("FINDINGS: NOTHING: a SHEET is MISSING");
        due(x.copy(0, 0, 1, 0, 1), NOTHING);

        terms("THE DAYS TOLD: SERVED of all CASES together");
        HearingBoards y = people(3);
        y.gap(0, 2, 4);
        y.keep();
        y.gone(1);
        int[] told = {3, 6, 8, 10, 13};
        for (int days : told) {
            y.tell(days);
            y.tell(0);
        }
        due(y.check(5), 0);
    }

    private static void ordinaryPromises() {
        promise(1, "As told; no CASES, nobody.");
        HearingBoards x = new HearingBoards();
        for (int what = 0; what <= 17; what++) due(x.count(what), 0);

        promise(44, "(From a SHEET, its place, to a SHEET, its place.)");
        x.sheet(0, 1, 4);
        x.sheet(1, 1, 6);
        for (int i = 0; i < 4; i++) x.add(0, i, i + 1);
        due(x.copy(0, 1, 1, 2, 3), 3);
        int[] want = {0, 0, 2, 3, 4, 0};
        for (int i = 0; i < 6; i++) due(x.add(1, i, 0), want[i]);
    }

    // ---- what is quoted

    private static final Pattern QUOTED = Pattern.compile("\\b(terms|promise)\\((?:(\\d+), )?\"((?:[^\"\\\\]|\\\\.)*)\"\\)");

    private static boolean[] quoted(String document) throws IOException {
        boolean[] marks = new boolean[document.length()];
        try (Stream<Path> tests = Files.list(root().resolve("src/test/java"))) {
            for (Path test : tests.toList()) {
                Matcher m = QUOTED.matcher(Files.readString(test).replaceAll("\"\\s*\\+\\s*\"", ""));
                while (m.find()) {
                    String words = m.group(3).replace("\\\"", "\"").replace("\\\\", "\\");
                    int from = document.indexOf(m.group(2) == null ? "## Terms" : "## Promise " + m.group(2) + ":");
                    int at = document.indexOf(words, from);
                    for (int i = Math.max(0, at); i < at + words.length(); i++) marks[i] = true;
                }
            }
        }
        return marks;
    }

    /** Of headings, signatures and the titles of the interface (see FaceTest) nothing needs to be quoted. */
    private static String withoutQuoted(String document, boolean[] marks) {
        int from = document.indexOf("## Terms");
        StringBuilder left = new StringBuilder();
        for (int i = from; i < document.indexOf("## Not promised"); i++) left.append(marks[i] ? '\u0000' : document.charAt(i));
        return left.toString().replaceAll("\u0000+", "\u0000").replaceAll("Ahead of the calls [^=]*?(?=## Promise 1:)", "")
            .replaceAll("## Promise \\d+: (A new object|\\w+) `[^`]*`", "").replaceAll("## Terms|======== \\d|```(text)?", "");
    }

    private static void allIsQuoted() throws IOException {
        terms("A call that is refused");
        String document = Files.readString(root().resolve("../shared/DOC.md")).replaceAll("\\s+", " ");
        for (String words : withoutQuoted(document, quoted(document)).split("\u0000")) {
            if (words.matches(".*[A-Za-z0-9].*")) complain("no test quotes '" + words.strip() + "'");
        }
    }

    private static Path root() {
        return Path.of(System.getProperty("project.root", "."));
    }

    public static void main(String[] args) throws IOException {
        used();
        numbers();
        sentences();
        time();
        texts();
        dueDays();
        papersAndMembers();
        hearings();
        drawsAndImages();
        ordinaryPromises();
        allIsQuoted();
        finish(1, 1);
    }
}
