import java.io.IOException;
import java.nio.file.Files;
import java.nio.file.Path;
import java.util.ArrayList;
import java.util.List;
import java.util.Set;
import java.util.TreeSet;
import java.util.function.Consumer;
import java.util.function.Supplier;
import java.util.function.ToIntFunction;

/**
 * What the tests of boundary cases share: the sentence that a test is about, answers that are due, and calls that
 * are refused, behind which an object must go on like one that was never asked. Tests extend it for its names.
 */
abstract class Edges {
    static final int BAD = HearingBoards.BAD, NO = HearingBoards.NO, FULL = HearingBoards.FULL, NONE = HearingBoards.NONE;
    static final int NOTHING = HearingBoards.NOTHING, KIND = HearingBoards.KIND, INDEX = HearingBoards.INDEX, SIZE = HearingBoards.SIZE;
    static final int LEAST = Integer.MIN_VALUE, MOST = Integer.MAX_VALUE;

    /** What count asks for. */
    static final int CASES = 0, SENTENCES = 4, SPANS = 5, GAPS = 6, CREDITS = 7, TEXTS = 8, PAPERS = 9, MEMBERS = 10, HEARINGS = 11;
    static final int SET = 12, DOUBLES = 13, WAITING = 14, BYTES = 15, TODAY = 16, SEED = 17;

    private static final String DOCUMENT = document();
    private static final Set<Integer> PROMISES = new TreeSet<>();
    private static final int MOST_TOLD = 30;

    private static String sentence = "";
    private static int sentences;
    private static int step;
    private static int asked;
    private static int wrong;

    // ---- sentences and answers

    private static String document() {
        try {
            Path root = Path.of(System.getProperty("project.root", "."));
            return Files.readString(root.resolve("../shared/DOC.md")).replaceAll("\\s+", " ");
        } catch (IOException e) {
            throw new IllegalStateException(e);
        }
    }

    private static void says(String where, String upTo, String words) {
        sentence = where + ", '" + words + "'";
        sentences++;
        step = 0;
        int from = DOCUMENT.indexOf(where);
        int to = from < 0 ? -1 : DOCUMENT.indexOf(upTo, from + where.length());
        int at = from < 0 ? -1 : DOCUMENT.indexOf(words, from);
        if (at < 0 || to >= 0 && at > to) complain("does not stand in the document");
    }

    /** The next answers are about these words of what stands ahead of the face. */
    static void atFirst(String words) {
        says("## What it is", "## The public face", words);
    }

    /** The next answers are about these words of the document's terms. */
    static void terms(String words) {
        says("## Terms", "## Promise 1:", words);
    }

    /** The next answers are about these words of a promise. */
    static void promise(int number, String words) {
        PROMISES.add(number);
        says("## Promise " + number + ":", "## ", words);
    }

    static void complain(String what) {
        wrong++;
        if (wrong <= MOST_TOLD) System.out.println(sentence + ": " + what);
    }

    static void due(int got, int want) {
        step++;
        asked++;
        if (got != want) complain("answer " + step + " is " + got + ", due is " + want);
    }

    /** Ends the test; the promises from one to another must each have had a sentence. */
    static void finish(int from, int to) {
        for (int i = from; i <= to; i++) {
            if (PROMISES.contains(i)) continue;
            sentence = "promise " + i;
            complain("no sentence of it is tested");
        }
        System.out.println(sentences + " sentences, " + asked + " answers, " + wrong + " not as due");
        if (wrong != 0) System.exit(1);
    }

    // ---- calls that are refused

    /** The call is refused, and changes nothing. */
    static void refused(int want, Supplier<HearingBoards> made, ToIntFunction<HearingBoards> call) {
        refusedBut(want, made, call, x -> { });
    }

    /** The call is refused, and changes no more than the document tells. */
    static void refusedBut(int want, Supplier<HearingBoards> made, ToIntFunction<HearingBoards> call, Consumer<HearingBoards> told) {
        HearingBoards x = made.get();
        HearingBoards other = made.get();
        due(call.applyAsInt(x), want);
        told.accept(other);
        alike(x, other);
    }

    /** Both answer the same from now on; they are used up by this. */
    static void alike(HearingBoards x, HearingBoards other) {
        List<String> got = readOut(x);
        List<String> want = readOut(other);
        for (int i = 0; i < got.size() && i < want.size(); i++) {
            if (got.get(i).equals(want.get(i))) continue;
            complain("behind answer " + step + " " + got.get(i) + " where " + want.get(i) + " is due");
            return;
        }
        if (got.size() != want.size()) complain("behind answer " + step + " there is more, or less, to read");
    }

    /**
     * All that the face lets see: now, of what is used up by looking, of the image, and of the days to come. That is
     * more than 512 calls, behind which the document leaves answers free; this class goes on as before.
     */
    private static List<String> readOut(HearingBoards x) {
        List<String> row = new ArrayList<>();
        look(x, row);
        lookAtSheets(x, row);
        row.add("what waits " + x.check(Math.max(1, x.count(WAITING) / 2)));
        row.add("tape " + x.text(8, 0));
        row.add("of the last text " + x.of(x.count(TEXTS) - 1, 0) + " " + x.of(x.count(TEXTS) - 1, 3));
        row.add("its rule " + x.rules(6, 2, 5, 3, 2, 1));
        row.add("drawn " + x.draw());
        for (int i = 0; i < 3; i++) {
            row.add("run " + x.run(i == 2 ? 40 : 1));
            look(x, row);
        }
        row.add("restored " + x.restore());
        look(x, row);
        return row;
    }

    private static void look(HearingBoards x, List<String> row) {
        for (int i = 0; i <= 17; i++) row.add("count " + i + " " + x.count(i));
        for (int i = 0; i < x.count(CASES); i++) lookAtCase(x, i, row);
        for (int i = 0; i < x.count(TEXTS); i++) {
            for (int what = 0; what < 4; what++) row.add("of " + i + " " + what + " " + x.of(i, what));
        }
        for (int offence = 0; offence < 8; offence++) {
            for (int key = 0; key < 5; key++) {
                row.add("why " + offence + " " + key + " " + x.why(offence, key));
                row.add("rules " + offence + " " + key + " " + x.rules(offence, key, 5, 3, 2, 1));
            }
        }
        for (int i = 0; i < x.count(PAPERS); i++) {
            for (int what = 0; what < 5; what++) row.add("paper " + i + " " + what + " " + x.paperTold(i, what) + " " + x.as(i, what));
        }
        for (int i = 0; i < x.count(MEMBERS); i++) {
            for (int what = 0; what < 4; what++) row.add("member " + i + " " + what + " " + x.is(i, what));
        }
        for (int i = 0; i < x.count(HEARINGS); i++) {
            for (int what = 0; what < 5; what++) row.add("hearing " + i + " " + what + " " + x.heard(i, what));
        }
        for (int i = 1; i <= 4; i++) row.add("puts " + i + " " + x.puts(i));
        row.add("spread " + x.spread());
        for (int i = 0; i < 24; i++) {
            int v = x.table(i / 3, i % 3, 0);
            x.table(i / 3, i % 3, v);
            row.add("table " + i / 3 + " " + i % 3 + " " + v);
        }
    }

    private static void lookAtCase(HearingBoards x, int person, List<String> row) {
        String name = "case " + person + " ";
        int today = x.count(TODAY);
        for (int what = 0; what <= 9; what++) row.add(name + "told " + what + " " + x.told(person, what));
        for (int day : new int[] {0, 1, today / 2, Math.max(0, today - 1), today, today + 1, today + 9, 9999}) {
            row.add(name + "served " + day + " " + x.served(person, day));
            row.add(name + "due " + day + " " + x.due(person, day));
            row.add(name + "credits " + day + " " + x.credits(person, day));
        }
        row.add(name + "date " + x.date(person));
        row.add(name + "cause " + x.cause(person));
        for (int what = 0; what < 3; what++) row.add(name + "like " + what + " " + x.like(person, what));
    }

    private static void lookAtSheets(HearingBoards x, List<String> row) {
        for (int i = 0; i < 4; i++) {
            for (int place = 0; place <= 24; place++) row.add("sheet " + i + " " + place + " " + x.add(i, place, 0));
        }
        for (int place = 0; place <= 24; place++) row.add("same " + place + " " + x.same(place, 0) + " " + x.same(place, 7));
        for (int i = 0; i < 4; i++) row.add("width of sheet " + i + " " + x.add(i, 0, 128) + " " + x.add(i, 0, 32768));
    }

    // ---- objects to ask

    static void times(int many, Runnable call) {
        for (int i = 0; i < many; i++) call.run();
    }

    /** Calls again until there are so many of what count asks for. */
    static HearingBoards until(int many, int what, HearingBoards x, ToIntFunction<HearingBoards> call) {
        for (int i = 0; i < 200 && x.count(what) < many; i++) call.applyAsInt(x);
        if (x.count(what) != many) complain("an object could not be made: " + x.count(what) + " of " + many);
        return x;
    }

    static HearingBoards toDay(HearingBoards x, int day) {
        for (int i = 0; i < 60 && x.count(TODAY) < day; i++) x.run(Math.min(60, day - x.count(TODAY)));
        if (x.count(TODAY) < day) complain("day " + day + " does not come");
        return x;
    }

    static HearingBoards feed(HearingBoards x, String text) {
        x.trim(0);
        for (int i = 0; i < text.length(); i += 12) {
            int[] v = new int[3];
            for (int j = 0; j < 12; j++) v[j / 4] = v[j / 4] << 8 | (i + j < text.length() ? text.charAt(i + j) : ' ');
            x.feed(v[0], v[1], v[2]);
        }
        x.trim(text.length());
        return x;
    }

    static int law(HearingBoards x, String text, int offence, int day) {
        return feed(x, text).text(offence, day);
    }

    static int law(HearingBoards x, String text) {
        return law(x, text, 8, 0);
    }

    /** So many cases (offence 0, prison 0, no marks, no victims), on day 0. */
    static HearingBoards people(int many) {
        HearingBoards x = new HearingBoards();
        times(many, () -> x.person(0, 0, 0, 0));
        return x;
    }

    /** So many cases that are due, each with a report for 999 days, and three members for all prisons and days. */
    static HearingBoards ready(int many) {
        HearingBoards x = people(many);
        for (int i = 0; i < many; i++) x.paper(1, i, 999);
        times(3, () -> x.member(0, 63));
        return x;
    }

    /** A hearing of a case today, with its notice, and the day goes by. */
    static void hear(HearingBoards x, int person) {
        x.paper(3, person, x.count(TODAY));
        x.hearing(person, x.count(TODAY));
        x.run(1);
    }

    /** One case, LET on day 0 by hearing 0; it is day 1. */
    static HearingBoards out() {
        HearingBoards x = ready(1);
        law(x, "let 1");
        hear(x, 0);
        return x;
    }

    static HearingBoards fillSpans(HearingBoards x, int person) {
        return until(30, SPANS, x, y -> y.flee(person) + y.caught(person));
    }

    /** As many of all as there may be, but of what an image does not keep. */
    static HearingBoards fillAll(HearingBoards x) {
        until(12, CASES, x, y -> y.person(y.count(CASES) % 8, y.count(CASES) % 6, 3, 1));
        until(9, MEMBERS, x, y -> y.member(0, 63));
        until(16, TEXTS, x, y -> law(y, y.count(TEXTS) == 0 ? "let 1" : "notice 0"));
        until(24, SENTENCES, x, y -> y.sentence(y.count(SENTENCES) % 12, 1, 1));
        until(20, GAPS, x, y -> y.gap(0, 50, 60));
        until(40, CREDITS, x, y -> y.credit(y.count(CREDITS) % 12, y.count(CREDITS) % 2 == 0 ? 9 : -1));
        until(20, DOUBLES, x, y -> y.twice(0, 1));
        for (int i = 0; i < 12; i++) {
            x.paper(1, i, 7);
            x.paper(3, i, 6);
        }
        until(40, PAPERS, x, y -> y.paper(4, 0, 9));
        until(29, SPANS, x, y -> y.flee(0) + y.caught(0));
        for (int i = 0; i < 12; i++) x.hearing(i, 6);
        x.seed(999);
        x.table(2, 1, 100);
        x.table(2, 0, 50);
        return toDay(x, 7);
    }

    /** Cases of rich. */
    static final int R_OUT = 0, R_IN = 1, R_FLED = 2, R_GONE = 3;

    /**
     * Something of everything, on day 12: case 0 OUT (by hearing 0), 1 IN (hearing 3 is SET for day 20), 2 fled
     * (hearing 1 was PUT OFF), 3 GONE (hearing 2 is SET); credits 0 (above 0), 1 (below), 2 (given back); a paper of
     * each kind, by its number; seven members; sheets 0, 1, 2 of each sort and 3 MISSING; an image of day 10, the days
     * told of it waiting, and a text on the tape.
     */
    static HearingBoards rich() {
        HearingBoards x = kept();
        HearingBoards days = kept();
        for (int i = 0; i < 4; i++) {
            days.run(1);
            int served = 0;
            for (int j = 0; j < days.count(CASES); j++) served += days.served(j, days.count(TODAY));
            x.tell(served);
            x.tell(days.count(2));
        }
        x.run(2);
        x.sentence(R_IN, 7, 1);
        x.gap(R_IN, 11, 14);
        x.credit(R_IN, -9);
        x.hearing(R_IN, 20);
        x.twice(1, 0);
        return feed(x, "let 1234+r");
    }

    /** As rich was when its image was kept, on day 10: nothing waits, and the tape is empty. */
    static HearingBoards kept() {
        HearingBoards x = new HearingBoards();
        x.person(0, 0, 1, 0);
        x.person(0, 0, 3, 1);
        x.person(1, 1, 255, 0);
        x.person(2, 5, 0, 1);
        law(x, "let h=0", 0, 0);
        law(x, "again 40", 1, 0);
        times(5, () -> x.member(0, 63));
        x.member(64, 1);
        x.member(0, 32);
        x.conflict(0, 1, 1);
        x.paper(0, 1, 0);
        x.paper(1, 0, 50);
        x.paper(2, 1, 60);
        x.paper(3, 0, 0);
        x.paper(4, 2, 9);
        x.sentence(1, 30, 0);
        x.gap(1, 2, 4);
        x.credit(1, 5);
        x.credit(1, -3);
        x.credit(1, -4);
        x.hearing(0, 0);
        x.run(3);
        x.back(2);
        x.flee(2);
        x.hearing(2, 4);
        x.hearing(3, 30);
        x.run(3);
        x.gone(3);
        for (int i = 0; i < 24; i++) x.table(i / 3, i % 3, 10 + i);
        x.twice(0, 1);
        x.seed(4321);
        for (int i = 0; i < 3; i++) {
            x.sheet(i, i, 3);
            for (int j = 0; j < 3; j++) x.add(i, j, 7 * i + j + 1);
        }
        x.run(4);
        x.keep();
        return x;
    }
}
