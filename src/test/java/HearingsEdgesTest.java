import java.util.List;
import java.util.function.Supplier;

/** Boundary cases of promises 22 to 35: papers, boards, hearings. */
public final class HearingsEdgesTest extends Edges {
    /** Numbers that no case, paper (of five), member (of seven), hearing (of four) of rich bears. */
    private static final int[] NOBODY = {LEAST, -1, 4, 12, MOST}, NO_PAPER = {LEAST, -1, 5, 40, MOST};
    private static final int[] NO_MEMBER = {LEAST, -1, 7, 9, MOST}, NO_HEARING = {LEAST, -1, 4, 30, MOST};

    private static HearingBoards fullOfPapers() {
        return until(40, PAPERS, rich(), x -> x.paper(4, R_IN, 3));
    }

    private static HearingBoards fullOfMembers() {
        return until(9, MEMBERS, rich(), x -> x.member(3, 7));
    }

    private static HearingBoards fullOfSpans() {
        return fillSpans(rich(), R_IN);
    }

    /** Case 0 of rich is IN again; the hearings that are wanting are all of its own. */
    private static HearingBoards fullOfHearings() {
        HearingBoards x = rich();
        x.recall(R_OUT);
        return until(30, HEARINGS, x, HearingsEdgesTest::oneHearingMore);
    }

    private static int oneHearingMore(HearingBoards x) {
        x.paper(3, R_OUT, x.count(TODAY));
        x.hearing(R_OUT, x.count(TODAY));
        return x.run(1);
    }

    // ---- papers

    private static void paper() {
        promise(22, "One more PAPER: its number. BAD: kind, case, a (of a NOTICE a DAY from TODAY on, 9999 at most); FULL.");
        int[][] edges = {{0, 0, 0}, {1, 1, 999}, {2, 1, 999}, {3, 12, 9999}, {4, 0, 9}};
        for (int[] row : edges) {
            for (int person = 0; person < 4; person++) {
                due(rich().paper(row[0], person, row[1]), 5);
                due(rich().paper(row[0], person, row[2]), 5);
            }
            for (int a : new int[] {LEAST, row[1] - 1, row[2] + 1, MOST}) {
                refused(BAD, Edges::rich, x -> x.paper(row[0], R_IN, a));
                refused(BAD, HearingsEdgesTest::fullOfPapers, x -> x.paper(row[0], R_IN, a));
            }
            for (int person : NOBODY) {
                refused(BAD, Edges::rich, x -> x.paper(row[0], person, row[1]));
                refused(BAD, HearingsEdgesTest::fullOfPapers, x -> x.paper(row[0], person, row[1]));
            }
            refused(FULL, HearingsEdgesTest::fullOfPapers, x -> x.paper(row[0], R_IN, row[1]));
        }
        for (int kind : new int[] {LEAST, -1, 5, MOST}) {
            for (int a : new int[] {0, 1, 12}) {
                refused(BAD, Edges::rich, x -> x.paper(kind, R_IN, a));
                refused(BAD, HearingsEdgesTest::fullOfPapers, x -> x.paper(kind, R_IN, a));
            }
        }
        due(until(39, PAPERS, rich(), x -> x.paper(4, R_IN, 3)).paper(0, R_IN, 0), 39);
        HearingBoards last = toDay(people(1), 2999);
        due(last.paper(3, 0, 2998), BAD);
        due(last.paper(3, 0, 2999), 0);
    }

    private static void paperTold() {
        promise(23, "Of a PAPER: what 0 KIND, 1 its CASE, 2 a, 3 the DAY on which it came, 4 the last DAY that it holds (of REPORTS, TAPES; NONE). BAD.");
        HearingBoards x = toDay(people(2), 6);
        int[][] rows = {{0, 0, NONE}, {1, 1, 6}, {1, 2, 7}, {2, 1, 6}, {2, 999, 1004}, {3, 6, NONE}, {4, 9, NONE}};
        for (int i = 0; i < rows.length; i++) {
            due(x.paper(rows[i][0], 1, rows[i][1]), i);
            int[] want = {rows[i][0], 1, rows[i][1], 6, rows[i][2]};
            for (int what = 0; what < 5; what++) due(x.paperTold(i, what), want[what]);
        }
        HearingBoards last = toDay(people(1), 2999);
        last.paper(2, 0, 999);
        due(last.paperTold(0, 4), 3997);
        for (int paper : NO_PAPER) {
            for (int what = 0; what < 5; what++) {
                int asked = what;
                refused(BAD, Edges::rich, y -> y.paperTold(paper, asked));
            }
        }
        for (int what : new int[] {LEAST, -1, 5, MOST}) refused(BAD, Edges::rich, y -> y.paperTold(1, what));
        HearingBoards full = fullOfPapers();
        due(full.paperTold(39, 2), 3);
        due(full.paperTold(40, 2), BAD);
    }

    private static void as() {
        promise(24, "A PAPER as one of a KIND: a. BAD: paper, kind; KIND: it is not of that KIND, nor of one under it.");
        String[] under = {"10000", "11000", "11100", "10010", "10001"};
        int[] a = {0, 50, 60, 0, 9};
        for (int paper = 0; paper < 5; paper++) {
            for (int kind = 0; kind < 5; kind++) {
                int p = paper;
                int k = kind;
                if (under[p].charAt(k) == '1') due(rich().as(p, k), a[p]);
                else refused(KIND, Edges::rich, x -> x.as(p, k));
            }
        }
        for (int paper : NO_PAPER) refused(BAD, Edges::rich, x -> x.as(paper, 0));
        for (int kind : new int[] {LEAST, -1, 5, MOST}) {
            refused(BAD, Edges::rich, x -> x.as(0, kind));
            refused(BAD, Edges::rich, x -> x.as(2, kind));
        }
    }

    // ---- members and boards

    private static void member() {
        promise(25, "One more MEMBER: the number. BAD; FULL.");
        int[][] taken = {{0, 0}, {127, 0}, {0, 63}, {127, 63}};
        for (int[] row : taken) {
            HearingBoards x = rich();
            due(x.member(row[0], row[1]), 7);
            int[] want = {row[0], row[1], 0, 0};
            for (int what = 0; what < 4; what++) due(x.is(7, what), want[what]);
        }
        int[][] bad = {{-1, 0}, {128, 0}, {0, -1}, {0, 64}, {LEAST, 0}, {MOST, 0}, {0, LEAST}, {0, MOST}};
        for (int[] row : bad) {
            refused(BAD, Edges::rich, x -> x.member(row[0], row[1]));
            refused(BAD, HearingsEdgesTest::fullOfMembers, x -> x.member(row[0], row[1]));
        }
        refused(FULL, HearingsEdgesTest::fullOfMembers, x -> x.member(0, 0));
        due(until(8, MEMBERS, rich(), x -> x.member(3, 7)).member(0, 0), 8);
    }

    private static void conflict() {
        promise(26, "A CONFLICT of a MEMBER with a CASE (on 1), or none (0): what it was. BAD.");
        HearingBoards x = until(9, MEMBERS, people(12), y -> y.member(0, 63));
        due(x.conflict(8, 11, 0), 0);
        due(x.is(8, 2), 0);
        due(x.conflict(8, 11, 1), 0);
        due(x.is(8, 2), 1 << 11);
        due(x.conflict(8, 11, 1), 1);
        due(x.is(8, 2), 1 << 11);
        due(x.conflict(8, 0, 1), 0);
        due(x.is(8, 2), 1 << 11 | 1);
        due(x.conflict(8, 11, 0), 1);
        due(x.is(8, 2), 1);
        due(x.conflict(8, 11, 0), 0);
        due(x.is(7, 2), 0);
        due(rich().conflict(1, R_GONE, 1), 0);
        for (int member : NO_MEMBER) refused(BAD, Edges::rich, y -> y.conflict(member, R_IN, 1));
        for (int person : NOBODY) refused(BAD, Edges::rich, y -> y.conflict(1, person, 1));
        for (int on : new int[] {LEAST, -1, 2, MOST}) {
            refused(BAD, Edges::rich, y -> y.conflict(0, R_IN, on));
            refused(BAD, Edges::rich, y -> y.conflict(1, R_IN, on));
        }
    }

    private static void is() {
        promise(27, "Of a MEMBER: what 0 DAYS OFF, 1 PRISONS, 2 CONFLICTS, 3 TURNS. BAD.");
        int[] first = {0, 63, 2, 1};
        int[] sixth = {64, 1, 0, 0};
        for (int what = 0; what < 4; what++) {
            due(rich().is(0, what), first[what]);
            due(rich().is(5, what), sixth[what]);
        }
        for (int member : NO_MEMBER) refused(BAD, Edges::rich, x -> x.is(member, 0));
        for (int what : new int[] {LEAST, -1, 4, MOST}) refused(BAD, Edges::rich, x -> x.is(0, what));
        due(fullOfMembers().is(8, 0), 3);
        due(fullOfMembers().is(9, 0), BAD);
    }

    private static void board() {
        promise(28, "THE BOARD for a set of CASES (bits) at a PRISON on a DAY (0 .. 9999), as digits (the least first). BAD; NONE.");
        due(rich().board(0, 0, 0), 345);
        due(rich().board(0, 5, 9999), 346);
        due(rich().board(0, 0, 6), 34);
        due(rich().board(13, 0, 6), 34);
        due(rich().board(2, 0, 6), 134);
        due(rich().board(15, 0, 6), 134);
        HearingBoards high = until(9, MEMBERS, people(1), x -> x.member(0, x.count(MEMBERS) < 6 ? 0 : 63));
        due(high.board(1, 5, 0), 678);
        refused(NONE, () -> new HearingBoards(), x -> x.board(0, 0, 0));
        HearingBoards two = until(2, MEMBERS, new HearingBoards(), x -> x.member(0, 63));
        due(two.board(0, 0, 0), NONE);
        two.member(0, 63);
        due(two.board(0, 0, 0), 12);
        for (int cases : new int[] {LEAST, -1, 16, 31, 1 << 12, MOST}) refused(BAD, Edges::rich, x -> x.board(cases, 0, 0));
        for (int prison : new int[] {LEAST, -1, 6, MOST}) refused(BAD, Edges::rich, x -> x.board(0, prison, 0));
        for (int day : new int[] {LEAST, -1, 10000, MOST}) refused(BAD, Edges::rich, x -> x.board(0, 0, day));
        due(new HearingBoards().board(1, 0, 0), BAD);
        HearingBoards twelve = until(3, MEMBERS, people(12), x -> x.member(0, 63));
        due(twelve.board(4095, 0, 0), 12);
        due(twelve.board(4096, 0, 0), BAD);
        due(twelve.board(8191, 0, 0), BAD);
    }

    // ---- hearings

    private static void hearing() {
        promise(29, "A HEARING is SET: its number. BAD: case, day (TODAY .. 2999); NO: the CASE is not IN, or has one that is SET; FULL.");
        HearingBoards x = toDay(people(3), 7);
        due(x.hearing(0, 6), BAD);
        due(x.hearing(0, 3000), BAD);
        due(x.hearing(0, 7), 0);
        due(x.hearing(1, 2999), 1);
        due(x.hearing(1, 2999), NO);
        int[] want = {1, 2999, 0, 0, 0};
        for (int what = 0; what < 5; what++) due(x.heard(1, what), want[what]);
        HearingBoards last = toDay(people(1), 2999);
        due(last.hearing(0, 2998), BAD);
        due(last.hearing(0, 2999), 0);
        HearingBoards fled = people(1);
        fled.flee(0);
        due(fled.hearing(0, 3), 0);
        Supplier<HearingBoards> full = HearingsEdgesTest::fullOfHearings;
        for (Supplier<HearingBoards> made : List.<Supplier<HearingBoards>>of(Edges::rich, full)) {
            for (int person : NOBODY) refused(BAD, made, y -> y.hearing(person, 100));
            for (int day : new int[] {LEAST, -1, 11, 3000, MOST}) {
                for (int person = 0; person < 4; person++) {
                    int of = person;
                    refused(BAD, made, y -> y.hearing(of, day));
                }
            }
            refused(NO, made, y -> y.hearing(R_GONE, 100));
        }
        refused(NO, Edges::rich, y -> y.hearing(R_OUT, 100));
        refused(NO, Edges::rich, y -> y.hearing(R_IN, 100));
        refused(NO, Edges::rich, y -> y.hearing(R_FLED, 100));
        refused(NO, full, y -> y.hearing(R_FLED, 100));
        refused(FULL, full, y -> y.hearing(R_OUT, 100));
        HearingBoards one = rich();
        one.recall(R_OUT);
        due(until(29, HEARINGS, one, HearingsEdgesTest::oneHearingMore).hearing(R_OUT, 100), 29);
    }

    private static void heard() {
        promise(30, "Of a HEARING: what 0 its CASE, 1 the DAY, 2 its state, 3 how often PUT OFF, 4 the latest cause (0: none). BAD.");
        int[][] want = {{0, 0, 2, 0, 0}, {2, 44, 0, 1, 2}, {3, 30, 0, 0, 0}, {1, 20, 0, 0, 0}};
        for (int i = 0; i < 4; i++) {
            for (int what = 0; what < 5; what++) due(rich().heard(i, what), want[i][what]);
        }
        HearingBoards put = people(1);
        law(put, "again 1");
        put.sentence(0, 2, 1);
        put.hearing(0, 0);
        int[] causes = {1, 2, 3};
        for (int i = 0; i < 3; i++) {
            if (i == 2) put.paper(1, 0, 9);
            put.run(1);
            due(put.heard(0, 3), i + 1);
            due(put.heard(0, 4), causes[i]);
        }
        put.paper(3, 0, 3);
        put.run(1);
        due(put.heard(0, 4), 4);
        until(3, MEMBERS, put, x -> x.member(0, 1)).paper(3, 0, 4);
        put.run(1);
        int[] held = {0, 4, 1, 4, 4};
        for (int what = 0; what < 5; what++) due(put.heard(0, what), held[what]);
        for (int hearing : NO_HEARING) refused(BAD, Edges::rich, x -> x.heard(hearing, 0));
        for (int what : new int[] {LEAST, -1, 5, MOST}) refused(BAD, Edges::rich, x -> x.heard(0, what));
        HearingBoards full = fullOfHearings();
        due(full.heard(29, 0), 0);
        due(full.heard(30, 0), BAD);
    }

    private static void cause() {
        promise(31, "What cause (1 .. 3) would put off a HEARING of a CASE that is IN, if it were TODAY; 0: none of these. BAD; NO: it is not IN.");
        HearingBoards x = people(1);
        x.sentence(0, 2, 0);
        x.paper(3, 0, 1);
        due(x.cause(0), 1);
        x.run(1);
        due(x.cause(0), 2);
        x.paper(1, 0, 1);
        due(x.cause(0), 0);
        x.run(1);
        due(x.cause(0), 2);
        x.paper(1, 0, 1);
        due(x.cause(0), 3);
        x.paper(3, 0, 2);
        due(x.cause(0), 0);
        x.flee(0);
        due(x.cause(0), 0);
        due(x.count(HEARINGS), 0);
        due(x.count(MEMBERS), 0);
        for (int person : NOBODY) refused(BAD, Edges::rich, y -> y.cause(person));
        refused(NO, Edges::rich, y -> y.cause(R_OUT));
        refused(NO, Edges::rich, y -> y.cause(R_GONE));
        due(rich().cause(R_FLED), 2);
    }

    private static void puts() {
        promise(32, "HEARINGS that were PUT OFF by a cause (1 .. 4), each time counted. BAD.");
        HearingBoards x = ready(2);
        law(x, "again 1");
        x.sentence(1, 4, 0);
        x.conflict(0, 0, 1);
        for (int day = 0; day < 3; day++) x.paper(3, 0, day);
        x.hearing(0, 0);
        x.hearing(1, 0);
        int[][] want = {{1, 0, 0, 1}, {2, 0, 0, 2}, {2, 0, 1, 3}, {2, 0, 3, 3}};
        for (int[] row : want) {
            x.run(1);
            for (int i = 1; i <= 4; i++) due(x.puts(i), row[i - 1]);
        }
        for (int cause : new int[] {LEAST, -1, 0, 5, MOST}) refused(BAD, Edges::rich, y -> y.puts(cause));
        due(rich().puts(2), 1);
        HearingBoards back = rich();
        toDay(back, 21);
        due(back.puts(1) + back.puts(2) + back.puts(3) + back.puts(4), 2);
        back.restore();
        due(back.puts(1) + back.puts(2) + back.puts(3) + back.puts(4), 1);
    }

    private static void recall() {
        promise(33, "A CASE is RECALLED: 1. BAD; NO: it is not OUT; FULL (of SPANS).");
        HearingBoards x = rich();
        due(x.recall(R_OUT), 1);
        due(x.recall(R_OUT), NO);
        due(x.count(SPANS), 5);
        due(x.count(2), 0);
        due(x.heard(0, 2), 2);
        due(x.served(R_OUT, 12), 0);
        due(x.served(R_OUT, 13), 1);
        for (Supplier<HearingBoards> made : List.<Supplier<HearingBoards>>of(Edges::rich, HearingsEdgesTest::fullOfSpans)) {
            for (int person : NOBODY) refused(BAD, made, y -> y.recall(person));
            for (int person : new int[] {R_IN, R_FLED, R_GONE}) refused(NO, made, y -> y.recall(person));
        }
        refused(FULL, HearingsEdgesTest::fullOfSpans, y -> y.recall(R_OUT));
        due(until(29, SPANS, rich(), y -> y.flee(R_IN) + y.caught(R_IN)).recall(R_OUT), 1);
    }

    private static void unwind() {
        promise(34, "A HEARING is UNWOUND: whether its SPAN goes on (1, 0: a new one). BAD; NO: as told; FULL (of SPANS).");
        HearingBoards x = rich();
        due(x.unwind(0), 0);
        due(x.unwind(0), NO);
        due(x.heard(0, 2), 3);
        due(x.told(R_OUT, 3), 0);
        due(x.count(SPANS), 5);
        HearingBoards y = rich();
        law(y, "unwind 12-d", 0, 12);
        due(y.unwind(0), 0);
        HearingBoards z = rich();
        law(z, "unwind 13-d", 0, 12);
        due(z.unwind(0), 1);
        due(z.count(SPANS), 4);
        due(z.served(R_OUT, 12), 12);
        for (Supplier<HearingBoards> made : List.<Supplier<HearingBoards>>of(Edges::rich, HearingsEdgesTest::fullOfSpans)) {
            for (int hearing : NO_HEARING) refused(BAD, made, w -> w.unwind(hearing));
            for (int hearing = 1; hearing < 4; hearing++) {
                int asked = hearing;
                refused(NO, made, w -> w.unwind(asked));
            }
        }
        refused(NO, HearingsEdgesTest::recalled, w -> w.unwind(0));
        refused(NO, HearingsEdgesTest::outAndGone, w -> w.unwind(0));
        refused(NO, HearingsEdgesTest::letTwice, w -> w.unwind(0));
        due(letTwice().unwind(1), 0);
        refused(NO, () -> heardOnly(), w -> w.unwind(0));
        refused(FULL, HearingsEdgesTest::fullOfSpans, w -> w.unwind(0));
        HearingBoards full = fullOfSpans();
        law(full, "unwind 1");
        due(full.unwind(0), 1);
        due(full.count(SPANS), 30);
        due(until(29, SPANS, rich(), w -> w.flee(R_IN) + w.caught(R_IN)).unwind(0), 0);
    }

    private static HearingBoards recalled() {
        HearingBoards x = rich();
        x.recall(R_OUT);
        return x;
    }

    private static HearingBoards outAndGone() {
        HearingBoards x = rich();
        x.gone(R_OUT);
        return x;
    }

    private static HearingBoards letTwice() {
        HearingBoards x = out();
        x.recall(0);
        hear(x, 0);
        return x;
    }

    private static HearingBoards heardOnly() {
        HearingBoards x = ready(1);
        hear(x, 0);
        return x;
    }

    private static void run() {
        promise(35, "n (1 .. 60) DAYS go by: TODAY. BAD; FULL: it would be above 2999.");
        HearingBoards x = new HearingBoards();
        due(x.run(1), 1);
        due(x.run(60), 61);
        for (int n : new int[] {LEAST, -1, 0, 61, MOST}) {
            refused(BAD, Edges::rich, y -> y.run(n));
            refused(BAD, () -> toDay(rich(), 2999), y -> y.run(n));
        }
        refused(FULL, () -> toDay(rich(), 2999), y -> y.run(1));
        refused(FULL, () -> toDay(rich(), 2940), y -> y.run(60));
        refused(FULL, () -> toDay(rich(), 2998), y -> y.run(2));
        due(toDay(rich(), 2939).run(60), 2999);
        due(toDay(rich(), 2998).run(1), 2999);
        alike(days(60), days(1));
        alike(days(60), days(7));
    }

    private static HearingBoards days(int step) {
        HearingBoards x = rich();
        for (int left = 60; left > 0; left -= step) x.run(Math.min(step, left));
        return x;
    }

    public static void main(String[] args) {
        paper();
        paperTold();
        as();
        member();
        conflict();
        is();
        board();
        hearing();
        heard();
        cause();
        puts();
        recall();
        unwind();
        run();
        finish(22, 35);
    }
}
