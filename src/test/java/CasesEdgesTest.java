import java.util.List;
import java.util.function.Supplier;

/** Boundary cases of promises 1 to 15: cases and their time. */
public final class CasesEdgesTest extends Edges {
    /** Numbers that no case of rich bears. */
    private static final int[] NOBODY = {LEAST, -1, 4, 12, MOST};

    private static HearingBoards fullOfCases() {
        return until(12, CASES, rich(), x -> x.person(3, 3, 3, 1));
    }

    private static HearingBoards fullOfSpans() {
        return fillSpans(rich(), R_IN);
    }

    private static HearingBoards fullOfSentences() {
        return until(24, SENTENCES, rich(), x -> x.sentence(R_IN, 2, 1));
    }

    private static HearingBoards fullOfGaps() {
        return until(20, GAPS, rich(), x -> x.gap(R_IN, 15, 17));
    }

    private static HearingBoards fullOfCredits() {
        return until(40, CREDITS, rich(), x -> x.credit(R_IN, -1));
    }

    private static void newObject() {
        promise(1, "As told; no CASES, nobody.");
        HearingBoards x = new HearingBoards();
        for (int what = 0; what <= 17; what++) due(x.count(what), 0);
        due(x.told(0, 0), BAD);
        due(x.is(0, 0), BAD);
        due(x.of(0, 0), BAD);
        due(x.heard(0, 0), BAD);
        due(x.paperTold(0, 0), BAD);
        due(x.back(0), BAD);
        due(x.why(0, 0), NONE);
        due(x.spread(), NONE);
        due(x.board(0, 0, 0), NONE);
        due(x.draw(), NO);
        due(x.restore(), NO);
        due(x.check(1), NO);
        due(x.text(8, 0), -100);
        due(x.seed(0), 0);
        for (int i = 1; i <= 4; i++) due(x.puts(i), 0);
        for (int i = 0; i < 24; i++) due(x.table(i / 3, i % 3, 0), 0);
        for (int i = 0; i < 4; i++) due(x.add(i, 0, 1), NOTHING);
        due(x.same(0, 0), 0);
        alike(new HearingBoards(), new HearingBoards());
        alike(rich(), rich());
    }

    private static void person() {
        promise(2, "One more CASE, IN: its number.");
        int[][] taken = {{0, 0, 0, 0}, {7, 0, 0, 0}, {0, 5, 0, 0}, {0, 0, 255, 0}, {0, 0, 0, 1}, {7, 5, 255, 1}};
        for (int[] row : taken) {
            HearingBoards x = rich();
            due(x.person(row[0], row[1], row[2], row[3]), 4);
            for (int what = 0; what < 3; what++) due(x.told(4, what), row[what]);
            due(x.told(4, 3), 0);
            due(x.told(4, 4), row[3]);
            due(x.told(4, 5), 0);
            due(x.told(4, 6), 0);
            due(x.told(4, 9), NONE);
        }

        promise(2, "BAD; FULL (of CASES, or of SPANS).");
        for (int i = 0; i < 4; i++) {
            int[] most = {7, 5, 255, 1};
            for (int v : new int[] {LEAST, -1, most[i] + 1, MOST}) {
                int[] row = new int[4];
                row[i] = v;
                refused(BAD, Edges::rich, x -> x.person(row[0], row[1], row[2], row[3]));
                refused(BAD, CasesEdgesTest::fullOfCases, x -> x.person(row[0], row[1], row[2], row[3]));
                refused(BAD, CasesEdgesTest::fullOfSpans, x -> x.person(row[0], row[1], row[2], row[3]));
            }
        }
        refused(FULL, CasesEdgesTest::fullOfCases, x -> x.person(0, 0, 0, 0));
        refused(FULL, CasesEdgesTest::fullOfSpans, x -> x.person(0, 0, 0, 0));
        due(until(11, CASES, rich(), x -> x.person(3, 3, 3, 1)).person(0, 0, 0, 0), 11);
        due(until(29, SPANS, rich(), x -> x.flee(R_IN) + x.caught(R_IN)).person(0, 0, 0, 0), 4);
    }

    private static void told() {
        promise(3, "Of a CASE: what 0 OFFENCE, 1 PRISON, 2 MARKS, 3 STATE, 4 VICTIMS (1, 0), 5 TOTAL");
        int[][] want = {{0, 0, 1, 1, 0, 0}, {0, 0, 3, 0, 1, 37}, {1, 1, 255, 0, 0, 0}, {2, 5, 0, 2, 1, 0}};
        for (int i = 0; i < 4; i++) {
            for (int what = 0; what < 6; what++) due(rich().told(i, what), want[i][what]);
        }

        promise(3, "6 how often heard (LET, UNWOUND ones too)");
        HearingBoards x = ready(1);
        due(x.told(0, 6), 0);
        x.hearing(0, 0);
        due(x.told(0, 6), 0);
        x.run(1);
        due(x.heard(0, 3), 1);
        due(x.told(0, 6), 0);
        toDay(x, 28).paper(3, 0, 28);
        x.run(1);
        due(x.told(0, 6), 1);
        law(x, "let 1");
        hear(x, 0);
        due(x.told(0, 6), 2);
        x.unwind(1);
        due(x.told(0, 6), 2);
        x.hearing(0, 60);
        x.gone(0);
        due(toDay(x, 62).heard(2, 2), 3);
        due(x.told(0, 6), 2);

        promise(3, "7 RISK, 8 DOUBT, 9 the HEARING that is SET (NONE). BAD.");
        HearingBoards y = rich();
        int[] set = {NONE, 3, 1, 2};
        for (int i = 0; i < 4; i++) due(y.told(i, 9), set[i]);
        due(y.told(1, 7), 100 * 16 / 17);
        due(y.told(1, 8), 100 * 18 / 17);
        due(toDay(y, 45).told(3, 9), NONE);
        for (int person : NOBODY) {
            for (int what = 0; what < 10; what++) {
                int asked = what;
                refused(BAD, Edges::rich, z -> z.told(person, asked));
            }
        }
        for (int what : new int[] {LEAST, -1, 10, MOST}) refused(BAD, Edges::rich, z -> z.told(0, what));
        HearingBoards full = fullOfCases();
        due(full.told(11, 0), 3);
        due(full.told(12, 0), BAD);
    }

    private static void be() {
        promise(4, "PRISON (what 1), MARKS (2), VICTIMS (4) of a CASE becomes v: what it was. BAD.");
        int[][] most = {{1, 5}, {2, 255}, {4, 1}};
        for (int[] row : most) {
            HearingBoards x = people(2);
            due(x.be(0, row[0], row[1]), 0);
            due(x.told(0, row[0]), row[1]);
            due(x.told(1, row[0]), 0);
            due(x.be(0, row[0], row[1]), row[1]);
            due(x.be(0, row[0], 0), row[1]);
            due(x.told(0, row[0]), 0);
            for (int v : new int[] {LEAST, -1, row[1] + 1, MOST}) refused(BAD, Edges::rich, y -> y.be(R_IN, row[0], v));
            for (int person : NOBODY) refused(BAD, Edges::rich, y -> y.be(person, row[0], 0));
        }
        for (int what : new int[] {LEAST, -1, 0, 3, 5, 6, MOST}) {
            refused(BAD, Edges::rich, y -> y.be(R_IN, what, 0));
            refused(BAD, Edges::rich, y -> y.be(R_IN, what, 1));
        }
        HearingBoards y = rich();
        due(y.be(R_OUT, 1, 5), 0);
        due(y.be(R_GONE, 1, 4), 5);
        due(y.be(R_FLED, 2, 254), 255);
    }

    private static void sentence() {
        promise(5, "One more SENTENCE (top 1: ON TOP, 0: BESIDE): its number.");
        HearingBoards x = people(1);
        due(x.sentence(0, 9999, 0), 0);
        due(x.sentence(0, 1, 1), 1);
        due(x.sentence(0, 9999, 1), 2);
        due(x.sentence(0, 1, 0), 3);
        due(x.told(0, 5), 19999);
        due(rich().sentence(R_OUT, 1, 0), 2);
        due(rich().sentence(R_FLED, 1, 0), 2);

        promise(5, "BAD; NO: the CASE is GONE; FULL.");
        Supplier<HearingBoards> rich = Edges::rich;
        Supplier<HearingBoards> full = CasesEdgesTest::fullOfSentences;
        for (Supplier<HearingBoards> made : List.of(rich, full)) {
            for (int person : NOBODY) refused(BAD, made, y -> y.sentence(person, 1, 0));
            for (int days : new int[] {LEAST, -1, 0, 10000, MOST}) {
                refused(BAD, made, y -> y.sentence(R_IN, days, 0));
                refused(BAD, made, y -> y.sentence(R_GONE, days, 1));
            }
            for (int top : new int[] {LEAST, -1, 2, MOST}) {
                refused(BAD, made, y -> y.sentence(R_IN, 1, top));
                refused(BAD, made, y -> y.sentence(R_GONE, 1, top));
            }
            refused(NO, made, y -> y.sentence(R_GONE, 1, 0));
        }
        refused(FULL, full, y -> y.sentence(R_IN, 1, 0));
        due(until(23, SENTENCES, rich(), y -> y.sentence(R_IN, 2, 1)).sentence(R_IN, 1, 0), 23);
    }

    private static void gap() {
        promise(6, "One more GAP (DAYS 0 .. 9999, to above from): how many there are. BAD; FULL.");
        int[][] taken = {{0, 1}, {0, 9999}, {9998, 9999}, {11, 12}, {12, 13}, {3, 5}};
        for (int[] row : taken) {
            for (int person = 0; person < 4; person++) due(rich().gap(person, row[0], row[1]), 3);
        }
        int[][] bad = {{-1, 5}, {LEAST, 5}, {5, 10000}, {5, MOST}, {5, 5}, {6, 5}, {0, 0}, {9999, 9999}, {9999, 10000}, {5, -1}, {MOST, LEAST}, {-2, -1}};
        for (int[] row : bad) {
            refused(BAD, Edges::rich, x -> x.gap(R_IN, row[0], row[1]));
            refused(BAD, CasesEdgesTest::fullOfGaps, x -> x.gap(R_IN, row[0], row[1]));
        }
        for (int person : NOBODY) {
            refused(BAD, Edges::rich, x -> x.gap(person, 1, 2));
            refused(BAD, CasesEdgesTest::fullOfGaps, x -> x.gap(person, 1, 2));
        }
        for (int person = 0; person < 4; person++) {
            int of = person;
            refused(FULL, CasesEdgesTest::fullOfGaps, x -> x.gap(of, 1, 2));
        }
        due(until(19, GAPS, rich(), x -> x.gap(R_IN, 15, 17)).gap(R_IN, 1, 2), 20);
    }

    private static void flee() {
        promise(7, "A CASE that is IN flees (its SPAN ends TODAY): 1. BAD; NO: it is not IN, or has fled.");
        HearingBoards x = toDay(people(2), 6);
        due(x.flee(0), 1);
        due(x.told(0, 3), 0);
        due(x.count(SPANS), 2);
        due(x.served(0, 6), 6);
        due(x.served(0, 7), 6);
        due(x.served(1, 7), 7);
        due(x.flee(0), NO);
        due(toDay(x, 9).flee(0), NO);
        due(x.served(0, 9), 6);
        for (int person : NOBODY) refused(BAD, Edges::rich, y -> y.flee(person));
        for (int person : new int[] {R_OUT, R_FLED, R_GONE}) refused(NO, Edges::rich, y -> y.flee(person));
        due(fullOfSpans().flee(R_IN), 1);
        HearingBoards back = rich();
        back.caught(R_FLED);
        due(back.flee(R_FLED), 1);
        HearingBoards recalled = rich();
        recalled.recall(R_OUT);
        due(recalled.flee(R_OUT), 1);
    }

    private static void caught() {
        promise(8, "One who fled comes back (a SPAN begins TODAY): 1. BAD; NO: it had not fled, or is not IN; FULL (of SPANS).");
        HearingBoards x = toDay(people(1), 2);
        x.flee(0);
        toDay(x, 5);
        due(x.caught(0), 1);
        due(x.caught(0), NO);
        due(x.served(0, 5), 2);
        due(x.served(0, 6), 3);
        due(x.count(SPANS), 2);
        for (Supplier<HearingBoards> made : List.<Supplier<HearingBoards>>of(Edges::rich, CasesEdgesTest::fullOfSpans)) {
            for (int person : NOBODY) refused(BAD, made, y -> y.caught(person));
            for (int person : new int[] {R_OUT, R_IN, R_GONE}) refused(NO, made, y -> y.caught(person));
        }
        refused(FULL, CasesEdgesTest::fullOfSpans, y -> y.caught(R_FLED));
        due(until(29, SPANS, rich(), y -> y.flee(R_IN) + y.caught(R_IN)).caught(R_FLED), 1);
        HearingBoards gone = rich();
        gone.gone(R_FLED);
        due(gone.caught(R_FLED), NO);
        HearingBoards sameDay = people(1);
        sameDay.flee(0);
        due(sameDay.caught(0), 1);
        due(sameDay.served(0, 3), 3);
    }

    private static void gone() {
        promise(9, "A CASE is GONE (its SPAN ends TODAY, if one goes on): 1. BAD; NO: it is.");
        for (int person : NOBODY) refused(BAD, Edges::rich, x -> x.gone(person));
        refused(NO, Edges::rich, x -> x.gone(R_GONE));
        int[] served = {0, 9, 3};
        for (int person = 0; person < 3; person++) {
            HearingBoards x = rich();
            due(x.gone(person), 1);
            due(x.told(person, 3), 2);
            due(x.served(person, 9999), served[person]);
            due(x.count(SPANS), 4);
            due(x.gone(person), NO);
            due(x.recall(person), NO);
            due(x.count(3), 2);
        }
    }

    private static void served() {
        promise(10, "SERVED of a CASE on a DAY (0 .. 9999; SPANS that go on are taken to go on). BAD.");
        HearingBoards x = people(1);
        due(x.served(0, 0), 0);
        due(x.served(0, 1), 1);
        due(x.served(0, 9999), 9999);
        HearingBoards y = toDay(new HearingBoards(), 2999);
        y.person(0, 0, 0, 0);
        due(y.served(0, 2998), 0);
        due(y.served(0, 2999), 0);
        due(y.served(0, 3000), 1);
        due(y.served(0, 9999), 7000);
        for (int person : NOBODY) refused(BAD, Edges::rich, z -> z.served(person, 5));
        for (int day : new int[] {LEAST, -1, 10000, MOST}) {
            for (int person = 0; person < 4; person++) {
                int of = person;
                refused(BAD, Edges::rich, z -> z.served(of, day));
            }
        }
    }

    private static void credit() {
        promise(11, "A CREDIT: its number. BAD: case, n; NO: the CASE is GONE; FULL.");
        for (int n : new int[] {-99, -1, 1, 99}) {
            for (int person : new int[] {R_OUT, R_IN, R_FLED}) {
                HearingBoards x = rich();
                int before = x.credits(person, 12);
                due(x.credit(person, n), 4);
                due(x.credits(person, 12), before + n);
                due(x.count(CREDITS), 5);
            }
        }
        for (Supplier<HearingBoards> made : List.<Supplier<HearingBoards>>of(Edges::rich, CasesEdgesTest::fullOfCredits)) {
            for (int person : NOBODY) refused(BAD, made, x -> x.credit(person, 1));
            for (int n : new int[] {LEAST, -100, 0, 100, MOST}) {
                refused(BAD, made, x -> x.credit(R_IN, n));
                refused(BAD, made, x -> x.credit(R_GONE, n));
            }
            refused(NO, made, x -> x.credit(R_GONE, 1));
            refused(NO, made, x -> x.credit(R_GONE, -99));
        }
        refused(FULL, CasesEdgesTest::fullOfCredits, x -> x.credit(R_IN, 1));
        due(until(39, CREDITS, rich(), x -> x.credit(R_IN, -1)).credit(R_IN, 1), 39);
    }

    private static void back() {
        promise(12, "A CREDIT below 0 is given BACK TODAY: 1. BAD; KIND: it is above 0; NO: it was.");
        HearingBoards x = people(1);
        x.credit(0, -1);
        x.credit(0, 1);
        due(x.back(0), 1);
        due(x.credits(0, 0), 1);
        due(x.back(0), NO);
        due(x.back(1), KIND);
        for (int credit : new int[] {LEAST, -1, 4, 40, MOST}) refused(BAD, Edges::rich, y -> y.back(credit));
        refused(KIND, Edges::rich, y -> y.back(0));
        refused(NO, Edges::rich, y -> y.back(2));
        due(rich().back(1), 1);
        due(rich().back(3), 1);
        HearingBoards full = fullOfCredits();
        due(full.back(39), 1);
        due(full.back(40), BAD);
        HearingBoards gone = rich();
        gone.gone(R_IN);
        due(gone.back(1), 1);
        HearingBoards restored = rich();
        restored.back(1);
        due(restored.credits(R_IN, 12), 5 - 9);
        restored.restore();
        due(restored.credits(R_IN, 12), 5 - 3);
        due(restored.back(1), 1);
    }

    private static void credits() {
        promise(13, "CREDIT of a CASE as known on a DAY (0 .. 2999). BAD.");
        HearingBoards x = people(1);
        due(x.credits(0, 0), 0);
        x.credit(0, 4);
        due(x.credits(0, 0), 4);
        due(x.credits(0, 2999), 4);
        toDay(x, 2999).credit(0, 3);
        due(x.credits(0, 2998), 4);
        due(x.credits(0, 2999), 7);
        due(x.due(0, 9999), 1);
        for (int person : NOBODY) refused(BAD, Edges::rich, y -> y.credits(person, 5));
        for (int day : new int[] {LEAST, -1, 3000, 9999, MOST}) refused(BAD, Edges::rich, y -> y.credits(R_IN, day));
        due(fullOfCredits().credits(R_IN, 12), 5 - 3 - 9 - 36);
    }

    private static void dueOn() {
        promise(14, "Whether a CASE would be DUE on a DAY (0 .. 9999): 1, 0. BAD.");
        HearingBoards x = people(1);
        law(x, "first 9999");
        due(x.due(0, 0), 0);
        due(x.due(0, 9998), 0);
        due(x.due(0, 9999), 1);
        law(x, "first 0");
        due(x.due(0, 0), 1);
        HearingBoards gone = people(1);
        gone.gone(0);
        due(gone.due(0, 0), 1);
        gone.person(0, 0, 0, 0);
        gone.sentence(1, 2, 0);
        due(gone.due(1, 0), 0);
        due(gone.due(1, 1), 1);
        due(out().due(0, 5), 1);
        for (int person : NOBODY) refused(BAD, Edges::rich, y -> y.due(person, 5));
        for (int day : new int[] {LEAST, -1, 10000, MOST}) refused(BAD, Edges::rich, y -> y.due(R_IN, day));
    }

    private static void date() {
        promise(15, "DATE of a CASE. BAD; NONE.");
        HearingBoards x = people(1);
        due(x.date(0), 0);
        x.sentence(0, 2, 0);
        due(x.date(0), 1);
        due(toDay(x, 1).date(0), 1);
        due(toDay(x, 2).date(0), 2);
        for (int person : NOBODY) refused(BAD, Edges::rich, y -> y.date(person));
        refused(NONE, Edges::rich, y -> y.date(R_OUT));
        refused(NONE, Edges::rich, y -> y.date(R_GONE));
        due(rich().date(R_FLED), 12);
        HearingBoards later = people(1);
        law(later, "first 4", 8, 3);
        later.sentence(0, 20, 0);
        due(later.date(0), 10);
        due(toDay(later, 2).date(0), 10);
        due(toDay(later, 3).date(0), 4);
    }

    public static void main(String[] args) {
        newObject();
        person();
        told();
        be();
        sentence();
        gap();
        flee();
        caught();
        gone();
        served();
        credit();
        back();
        credits();
        dueOn();
        date();
        finish(1, 15);
    }
}
