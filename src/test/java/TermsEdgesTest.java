/** Boundary cases that the terms name: what holds right at an edge, and right beyond it. */
public final class TermsEdgesTest extends Edges {

    // ======== 1: days, cases, time

    private static void days() {
        terms("DAYS are numbered; TODAY is 0 at first (2999 at most)");
        HearingBoards x = new HearingBoards();
        due(x.count(TODAY), 0);
        due(toDay(x, 2998).run(1), 2999);
        due(x.count(TODAY), 2999);
        refused(FULL, () -> toDay(rich(), 2999), y -> y.run(1));

        terms("WEEKDAY: its rest by 7");
        HearingBoards y = new HearingBoards();
        times(2, () -> y.member(0, 63));
        y.member(1 | 1 << 6, 63);
        int[] off = {0, 6, 7, 13, 14, 20, 2995, 9996, 9995};
        int[] on = {1, 5, 8, 12, 15, 19, 2994, 9997, 9994, 9999};
        for (int day : off) due(y.board(0, 0, day), NONE);
        for (int day : on) due(y.board(0, 0, day), 12);
    }

    private static void cases() {
        terms("CASES, 12 at most, numbered from 0");
        HearingBoards x = new HearingBoards();
        for (int i = 0; i < 12; i++) due(x.person(0, 0, 0, 0), i);
        due(x.person(0, 0, 0, 0), FULL);
        due(x.told(11, 3), 0);
        due(x.told(12, 3), BAD);

        terms("an OFFENCE 0 .. 7, a PRISON 0 .. 5, MARKS (bits 0 .. 255), a STATE: 0 IN (at first), 1 OUT (let), 2 GONE (dead, or moved abroad)");
        HearingBoards y = new HearingBoards();
        due(y.person(0, 0, 0, 0), 0);
        due(y.person(7, 5, 255, 1), 1);
        for (int what = 0; what < 5; what++) due(y.told(0, what), 0);
        int[] greatest = {7, 5, 255, 0, 1};
        for (int what = 0; what < 5; what++) due(y.told(1, what), greatest[what]);
        int[][] beyond = {{-1, 0, 0}, {8, 0, 0}, {0, -1, 0}, {0, 6, 0}, {0, 0, -1}, {0, 0, 256}};
        for (int[] row : beyond) refused(BAD, Edges::rich, z -> z.person(row[0], row[1], row[2], 0));
        HearingBoards z = out();
        due(z.told(0, 3), 1);
        z.gone(0);
        due(z.told(0, 3), 2);
    }

    private static void sentences() {
        terms("SENTENCES, 24 at most, numbered from 0");
        HearingBoards x = people(2);
        for (int i = 0; i < 24; i++) due(x.sentence(i % 2, 1, 1), i);
        due(x.sentence(0, 1, 1), FULL);
        due(x.told(0, 5), 12);

        terms("of a CASE, DAYS 1 .. 9999");
        HearingBoards y = people(1);
        due(y.sentence(0, 0, 0), BAD);
        due(y.sentence(0, 10000, 0), BAD);
        due(y.told(0, 5), 0);
        due(y.sentence(0, 1, 0), 0);
        due(y.told(0, 5), 1);
        due(y.sentence(0, 9999, 0), 1);
        due(y.told(0, 5), 9999);

        terms("TOTAL of a CASE: the greatest of its BESIDE ones (0 without), and all its ON TOP ones.");
        HearingBoards z = people(3);
        due(z.told(0, 5), 0);
        z.sentence(0, 4, 1);
        due(z.told(0, 5), 4);
        z.sentence(0, 5, 1);
        due(z.told(0, 5), 9);
        z.sentence(1, 6, 0);
        z.sentence(1, 6, 0);
        z.sentence(1, 5, 0);
        due(z.told(1, 5), 6);
        z.sentence(1, 7, 0);
        due(z.told(1, 5), 7);
        z.sentence(1, 1, 1);
        due(z.told(1, 5), 8);
        due(z.told(2, 5), 0);
        due(z.told(0, 5), 9);
    }

    private static void spans() {
        terms("SPANS, 30 at most");
        HearingBoards x = people(1);
        for (int i = 2; i <= 30; i++) {
            x.flee(0);
            due(x.caught(0), 1);
            due(x.count(SPANS), i);
        }
        due(x.person(0, 0, 0, 0), FULL);
        due(x.flee(0), 1);
        due(x.caught(0), FULL);
        due(x.count(SPANS), 30);

        terms("as a CASE comes one of it begins TODAY");
        HearingBoards y = toDay(new HearingBoards(), 4);
        y.person(0, 0, 0, 0);
        due(y.served(0, 4), 0);
        due(y.served(0, 5), 1);

        terms("it ends as it is let, goes, or flees (the DAY on which it ends does not count)");
        HearingBoards fled = toDay(people(1), 3);
        fled.flee(0);
        due(fled.served(0, 3), 3);
        due(fled.served(0, 4), 3);
        due(fled.served(0, 9999), 3);
        HearingBoards gone = toDay(people(1), 3);
        gone.gone(0);
        due(gone.served(0, 4), 3);
        HearingBoards let = toDay(ready(1), 3);
        law(let, "let 1");
        hear(let, 0);
        due(let.told(0, 3), 1);
        due(let.served(0, 3), 3);
        due(let.served(0, 4), 3);
        HearingBoards atOnce = people(1);
        atOnce.gone(0);
        due(atOnce.served(0, 9999), 0);

        terms("one begins as it is recalled, comes back, or is unwound");
        HearingBoards recalled = toDay(out(), 4);
        recalled.recall(0);
        due(recalled.served(0, 4), 0);
        due(recalled.served(0, 5), 1);
        HearingBoards back = toDay(fled, 6);
        back.caught(0);
        due(back.served(0, 6), 3);
        due(back.served(0, 7), 4);
        HearingBoards unwound = toDay(out(), 4);
        unwound.unwind(0);
        due(unwound.served(0, 4), 0);
        due(unwound.served(0, 5), 1);
        for (HearingBoards each : new HearingBoards[] {recalled, back, unwound}) due(each.count(SPANS), 2);
    }

    private static void gaps() {
        terms("GAPS, 20 at most");
        HearingBoards x = people(2);
        for (int i = 1; i <= 20; i++) due(x.gap(i % 2, 2 * i, 2 * i + 1), i);
        due(x.gap(0, 1, 2), FULL);
        due(x.count(GAPS), 20);
        due(x.served(0, 100), 90);
        due(x.served(1, 100), 90);
        HearingBoards all = people(1);
        for (int i = 0; i < 20; i++) all.gap(0, 9998 - 2 * i, 9999 - 2 * i);
        due(all.served(0, 9999), 9979);
        HearingBoards apart = people(1);
        for (int i = 20; i > 0; i--) apart.gap(0, 5 * i, 5 * i + 2);
        due(apart.served(0, 110), 70);
        due(apart.served(0, 9999), 9959);
        HearingBoards chained = people(1);
        for (int i = 20; i > 0; i--) chained.gap(0, 3 * i, 3 * i + 4);
        due(chained.served(0, 9999), 9999 - 61);

        terms("of a CASE, from a DAY up to another one (that one not), told at any time: DAYS in them do not count");
        HearingBoards y = toDay(people(2), 8);
        y.gap(0, 3, 5);
        int[] want = {0, 1, 2, 3, 3, 3, 4, 5};
        for (int day = 0; day < 8; day++) due(y.served(0, day), want[day]);
        for (int day = 0; day < 8; day++) due(y.served(1, day), day);
        y.gap(0, 0, 1);
        due(y.served(0, 1), 0);
        due(y.served(0, 2), 1);
        y.gap(0, 9998, 9999);
        due(y.served(0, 9998), 9995);
        due(y.served(0, 9999), 9995);
        y.gone(1);
        y.gap(1, 7, 20);
        due(y.served(1, 99), 7);
        y.gap(1, 8, 20);
        due(y.served(1, 99), 7);

        terms("how many DAYS ahead of it lie in SPANS of the CASE and in no GAP of it (each once)");
        HearingBoards z = people(1);
        z.gap(0, 2, 6);
        z.gap(0, 2, 6);
        due(z.served(0, 9), 5);
        z.gap(0, 3, 5);
        due(z.served(0, 9), 5);
        z.gap(0, 6, 7);
        due(z.served(0, 9), 4);
        z.gap(0, 5, 8);
        due(z.served(0, 9), 3);
        z.gap(0, 0, 9);
        due(z.served(0, 9), 0);
        due(z.served(0, 10), 1);
        due(z.served(0, 0), 0);
        HearingBoards ahead = toDay(new HearingBoards(), 5);
        ahead.person(0, 0, 0, 0);
        ahead.gap(0, 0, 5);
        due(ahead.served(0, 6), 1);
        ahead.gap(0, 4, 6);
        due(ahead.served(0, 6), 0);
        due(ahead.served(0, 7), 1);
        toDay(ahead, 10).flee(0);
        toDay(ahead, 15).caught(0);
        due(ahead.served(0, 17), 6);
        ahead.gap(0, 9, 16);
        due(ahead.served(0, 17), 4);
    }

    private static void credits() {
        terms("CREDITS, 40 at most, numbered from 0");
        HearingBoards x = people(2);
        for (int i = 0; i < 40; i++) due(x.credit(i % 2, 99), i);
        due(x.credit(0, 1), FULL);
        due(x.credits(0, 0), 20 * 99);

        terms("of a CASE, DAYS -99 .. 99 (not 0), told on a DAY");
        HearingBoards y = toDay(people(1), 2);
        due(y.credit(0, -100), BAD);
        due(y.credit(0, -99), 0);
        due(y.credit(0, -1), 1);
        due(y.credit(0, 0), BAD);
        due(y.credit(0, 1), 2);
        due(y.credit(0, 99), 3);
        due(y.credit(0, 100), BAD);
        due(y.credits(0, 2), 0);
        due(y.credit(0, 50), 4);

        terms("all that were told on it or ahead of it together, but those below 0 that were given BACK by then");
        due(y.credits(0, 1), 0);
        due(y.credits(0, 2), 50);
        due(y.credits(0, 3), 50);
        toDay(y, 5).credit(0, 7);
        due(y.credits(0, 4), 50);
        due(y.credits(0, 5), 57);

        terms("one below 0 may be given BACK on a later DAY or the same one");
        due(y.credit(0, -20), 6);
        due(y.credits(0, 5), 37);
        due(y.back(6), 1);
        due(y.credits(0, 4), 50);
        due(y.credits(0, 5), 57);
        due(y.back(0), 1);
        due(y.credits(0, 2), 50);
        due(y.credits(0, 4), 50);
        due(y.credits(0, 5), 57 + 99);
        toDay(y, 6).back(1);
        due(y.credits(0, 5), 57 + 99);
        due(y.credits(0, 6), 57 + 100);
    }

    // ======== 3: papers, boards, hearings

    private static void papers() {
        terms("PAPERS, 40 at most, numbered from 0");
        HearingBoards x = people(1);
        for (int i = 0; i < 40; i++) due(x.paper(0, 0, 0), i);
        due(x.paper(0, 0, 0), FULL);

        terms("of KINDS: 0 PAPER; 1 REPORT, 3 NOTICE, 4 CONDITION, under PAPER; 2 TAPE, under REPORT (all are PAPERS)");
        String[] under = {"10000", "11000", "11100", "10010", "10001"};
        HearingBoards y = people(1);
        int[] a = {0, 7, 8, 9, 6};
        for (int kind = 0; kind < 5; kind++) {
            due(y.paper(kind, 0, a[kind]), kind);
            for (int as = 0; as < 5; as++) due(y.as(kind, as), under[kind].charAt(as) == '1' ? a[kind] : KIND);
        }

        terms("of PAPER 0; of a REPORT, TAPE how many DAYS it holds from the DAY on which it came (1 .. 999); of a NOTICE the DAY of which it tells; of a CONDITION 0 .. 9");
        int[][] edges = {{0, 0, 0}, {1, 1, 999}, {2, 1, 999}, {3, 12, 9999}, {4, 0, 9}};
        for (int[] row : edges) {
            due(rich().paper(row[0], 0, row[1]), 5);
            due(rich().paper(row[0], 0, row[2]), 5);
            refused(BAD, Edges::rich, z -> z.paper(row[0], 0, row[1] - 1));
            refused(BAD, Edges::rich, z -> z.paper(row[0], 0, row[2] + 1));
        }

        terms("They came on the DAY on which they were told.");
        HearingBoards came = people(1);
        for (int day : new int[] {0, 1, 2999}) {
            int paper = toDay(came, day).paper(1, 0, 1);
            due(came.paperTold(paper, 3), day);
            due(came.paperTold(paper, 4), day);
        }
        due(came.paperTold(0, 3), 0);
    }

    private static void boards() {
        terms("MEMBERS, 9 at most, numbered from 0");
        HearingBoards x = new HearingBoards();
        for (int i = 0; i < 9; i++) due(x.member(0, 63), i);
        due(x.member(0, 63), FULL);

        terms("TURNS (0 at first), PRISONS to which they go (bits 0 .. 63)");
        due(x.is(8, 3), 0);
        HearingBoards one = new HearingBoards();
        times(2, () -> one.member(0, 63));
        one.member(0, 1 | 32);
        int[] goes = {12, NONE, NONE, NONE, NONE, 12};
        for (int prison = 0; prison < 6; prison++) due(one.board(0, prison, 0), goes[prison]);

        terms("three MEMBERS who go there, are not OFF, and have no CONFLICT with one of them");
        HearingBoards y = people(12);
        due(y.board(0, 0, 0), NONE);
        y.member(0, 63);
        y.member(0, 63);
        due(y.board(0, 0, 0), NONE);
        y.member(0, 63);
        due(y.board(4095, 0, 0), 12);
        y.conflict(1, 11, 1);
        due(y.board(4095, 0, 0), NONE);
        due(y.board(1 << 11, 0, 0), NONE);
        due(y.board(2047, 0, 0), 12);
        y.conflict(1, 0, 1);
        due(y.board(1, 0, 0), NONE);
        due(y.board(2, 0, 0), 12);
        due(y.board(0, 0, 0), 12);

        terms("with the least TURNS together; of several the first by numbers (the least first, then the second, the third)");
        due(x.board(0, 0, 0), 12);
        HearingBoards z = ready(1);
        times(6, () -> z.member(0, 63));
        int[] boards = {12, 345, 678, 12, 345};
        for (int board : boards) {
            due(z.board(1, 0, z.count(TODAY)), board);
            hear(z, 0);
        }
        due(z.board(1, 0, 5), 678);
        z.conflict(7, 0, 1);
        due(z.board(1, 0, 5), 68);
        z.conflict(6, 0, 1);
        z.conflict(8, 0, 1);
        due(z.board(1, 0, 5), 12);
        z.conflict(0, 0, 1);
        due(z.board(1, 0, 5), 123);
        z.conflict(2, 0, 1);
        due(z.board(1, 0, 5), 134);
    }

    private static void hearings() {
        terms("HEARINGS, 30 at most, numbered from 0");
        HearingBoards x = ready(1);
        law(x, "notice 0");
        for (int i = 0; i < 30; i++) {
            x.paper(3, 0, x.count(TODAY));
            due(x.hearing(0, x.count(TODAY)), i);
            x.run(1);
        }
        due(x.heard(29, 2), 1);
        due(x.hearing(0, 99), FULL);

        terms("of a CASE, on a DAY (not ahead of TODAY)");
        HearingBoards y = toDay(people(2), 5);
        due(y.hearing(0, 4), BAD);
        due(y.hearing(0, 5), 0);

        terms("One of a CASE at most is SET.");
        due(y.hearing(0, 6), NO);
        due(y.hearing(1, 6), 1);
        due(y.told(0, 9), 0);
        due(y.told(1, 9), 1);
        y.run(1);
        due(y.heard(0, 3), 1);
        due(y.hearing(0, 6), NO);
    }

    private static void causes() {
        terms("(a) of HEARINGS that are SET for TODAY (by numbers) whose CASE is IN, and in that PRISON");
        HearingBoards set = ready(1);
        set.paper(3, 0, 5);
        set.hearing(0, 5);
        toDay(set, 5);
        due(set.heard(0, 2), 0);
        due(set.heard(0, 3), 0);
        set.run(1);
        due(set.heard(0, 2), 1);

        terms("cause 1: it is not DUE; 2: no REPORT (TAPES are) of it that came holds TODAY (its DAY and a - 1 more ones)");
        HearingBoards x = people(2);
        x.sentence(0, 6, 0);
        x.paper(3, 0, 3);
        toDay(x, 2);
        due(x.cause(0), 1);
        due(toDay(x, 3).cause(0), 2);
        x.paper(1, 1, 99);
        due(x.cause(0), 2);
        x.paper(0, 0, 0);
        x.paper(4, 0, 9);
        due(x.cause(0), 2);
        x.paper(1, 0, 1);
        due(x.cause(0), 0);
        due(toDay(x, 4).cause(0), 2);
        x.paper(2, 0, 2);
        due(x.cause(0), 3);
        due(toDay(x, 5).cause(0), 3);
        due(toDay(x, 6).cause(0), 2);

        terms("3: no NOTICE tells of TODAY that came as many DAYS ahead as THE RULE of notice (v: by VICTIMS) at least");
        HearingBoards y = ready(3);
        y.be(0, 4, 1);
        y.be(1, 4, 1);
        y.run(1);
        y.paper(3, 0, 8);
        y.run(1);
        y.paper(3, 1, 8);
        y.paper(3, 0, 9);
        toDay(y, 7).paper(3, 0, 7);
        due(y.cause(0), 3);
        due(toDay(y, 8).cause(0), 0);
        due(y.cause(1), 3);
        due(y.cause(2), 3);
        y.paper(3, 2, 8);
        due(y.cause(2), 0);
        due(toDay(y, 9).cause(0), 0);
        due(y.cause(2), 3);
        due(toDay(y, 10).cause(0), 3);

        terms("Those without a cause are THE LIST; cause 4, if there is no BOARD for all of them together (then for none)");
        HearingBoards z = ready(4);
        z.be(3, 1, 1);
        for (int i = 0; i < 4; i++) {
            if (i != 1) z.paper(3, i, 0);
            z.hearing(i, 0);
        }
        z.conflict(2, 2, 1);
        z.conflict(0, 1, 1);
        z.run(1);
        int[] causes = {4, 3, 4, 0};
        for (int i = 0; i < 4; i++) due(z.heard(i, 4), causes[i]);
        due(z.heard(3, 2), 1);
        due(z.is(0, 3), 1);
        // a conflict with any one on the list is in the way, one with anybody else is not
        int[] states = {1, 0, 0, 0, 1, 1};
        for (int person = 0; person < 6; person++) due(heardWithConflict(person), states[person]);
    }

    /** Of hearings of cases 1, 2, 3 in prison 0 (0 is put off, 4 in another prison, 5 without a hearing) the state of the last. */
    private static int heardWithConflict(int person) {
        HearingBoards x = ready(6);
        x.be(4, 1, 1);
        for (int i = 0; i < 5; i++) {
            if (i != 0) x.paper(3, i, 0);
            x.hearing(i, 0);
        }
        x.conflict(1, person, 1);
        x.run(1);
        due(x.heard(1, 2), x.heard(3, 2));
        due(x.heard(0, 4), 3);
        due(x.heard(4, 2), person == 4 ? 0 : 1);
        return x.heard(3, 2);
    }

    private static void puttingOff() {
        terms("A cause puts it off to the DAY so many behind TODAY as THE RULE of again (w the cause)");
        HearingBoards x = people(1);
        law(x, "again w-1", 0, 0);
        law(x, "again w*100", 0, 1);
        x.sentence(0, 2, 1);
        x.hearing(0, 0);
        x.run(1);
        due(x.heard(0, 4), 1);
        due(x.heard(0, 1), 1);
        x.run(1);
        due(x.heard(0, 4), 2);
        due(x.heard(0, 1), 100);
        due(x.heard(0, 3), 2);
        HearingBoards unwritten = people(1);
        unwritten.hearing(0, 2);
        due(toDay(unwritten, 3).heard(0, 1), 30);
        HearingBoards late = toDay(people(1), 2998);
        late.hearing(0, 2998);
        late.run(1);
        due(late.heard(0, 1), 3026);
        due(late.told(0, 9), 0);
    }

    private static void order() {
        terms("A DAY, in this order: PRISON by PRISON first (a), then (b)");
        HearingBoards x = ready(3);
        times(3, () -> x.member(0, 63));
        x.be(0, 1, 5);
        x.be(1, 1, 0);
        x.be(2, 1, 3);
        for (int i = 0; i < 3; i++) {
            x.paper(3, i, 0);
            x.hearing(i, 0);
        }
        // by prisons (0, 3, 5) the cases 1, 2, 0: members 0 to 2 hear case 1, 3 to 5 case 2, 0 to 2 again case 0
        x.conflict(0, 2, 1);
        x.conflict(5, 0, 1);
        x.run(1);
        for (int i = 0; i < 3; i++) due(x.heard(i, 2), 1);
        int[] turns = {2, 2, 2, 1, 1, 1};
        for (int i = 0; i < 6; i++) due(x.is(i, 3), turns[i]);

        terms("(d) TODAY is 1 more.");
        due(x.count(TODAY), 1);
        due(x.run(1), 2);
        HearingBoards put = people(1);
        law(put, "again 1");
        put.hearing(0, 0);
        due(put.run(5), 5);
        due(put.heard(0, 3), 5);
        due(put.heard(0, 1), 5);
    }

    private static void holding() {
        terms("(b) if there is a LIST, THE BOARD has a TURN more each; each on THE LIST, by numbers, is HEARD");
        HearingBoards x = ready(3);
        x.be(2, 1, 5);
        for (int i = 0; i < 3; i++) {
            x.paper(3, i, 0);
            x.hearing(i, 0);
        }
        x.run(1);
        for (int i = 0; i < 3; i++) due(x.heard(i, 2), 1);
        for (int i = 0; i < 3; i++) due(x.is(i, 3), 2);
        HearingBoards without = ready(1);
        without.hearing(0, 0);
        without.run(1);
        due(without.is(0, 3), 0);
        due(without.told(0, 6), 0);

        terms("and LET, if let is not 0 (h without this one): the CASE is OUT, its SPAN (if one goes on) ends TODAY");
        HearingBoards y = ready(1);
        law(y, "let 0-h");
        hear(y, 0);
        due(y.heard(0, 2), 1);
        due(y.told(0, 3), 0);
        due(y.told(0, 6), 1);
        hear(y, 0);
        due(y.heard(1, 2), 2);
        due(y.told(0, 3), 1);
        due(y.served(0, 9), 1);
        HearingBoards fled = toDay(ready(1), 2);
        law(fled, "let 1");
        fled.flee(0);
        toDay(fled, 4);
        hear(fled, 0);
        due(fled.told(0, 3), 1);
        due(fled.served(0, 9), 2);

        terms("Behind all PRISONS: (c) HEARINGS SET for TODAY of CASES that are not IN are VOID");
        HearingBoards z = ready(2);
        z.hearing(0, 3);
        z.hearing(1, 4);
        z.gone(0);
        z.gone(1);
        toDay(z, 3);
        due(z.heard(0, 2), 0);
        due(z.count(SET), 2);
        due(z.run(1), 4);
        due(z.heard(0, 2), 3);
        due(z.heard(1, 2), 0);
        z.run(1);
        due(z.heard(1, 2), 3);
        due(z.heard(1, 3), 0);
        due(z.count(SET), 0);
    }

    private static void risks() {
        terms("by TABLE (8 rows by how many MARKS it has, 0 and 8 share row 0)");
        HearingBoards x = new HearingBoards();
        for (int i = 0; i <= 8; i++) x.person(0, 0, (1 << i) - 1, 0);
        for (int i = 0; i < 8; i++) {
            x.table(i, 0, i + 1);
            x.table(i, 1, 100);
            x.table(i, 2, 11 + i);
        }
        for (int i = 0; i <= 8; i++) {
            due(x.told(i, 7), i % 8 + 1);
            due(x.told(i, 8), i % 8 + 11);
        }
        x.be(0, 2, 128);
        due(x.told(0, 7), 2);
        x.be(0, 2, 254);
        due(x.told(0, 7), 8);
        x.be(0, 2, 255);
        due(x.told(0, 7), 1);

        terms("hundredths of AGAIN by OF (0 by 0: 0), cut; DOUBT: hundredths of WRONG by OF likewise");
        HearingBoards y = people(1);
        int[][] rows = {{0, 0, 0, 0, 0}, {0, 1, 0, 0, 0}, {2, 3, 1, 66, 33}, {1, 101, 101, 0, 100}, {9999, 9999, 9998, 100, 99}, {9999, 1, 9999, 999900, 999900}};
        for (int[] row : rows) {
            for (int i = 0; i < 3; i++) y.table(0, i, row[i]);
            due(y.told(0, 7), row[3]);
            due(y.told(0, 8), row[4]);
        }
    }

    private static void returning() {
        terms("RECALL of a CASE that is OUT: it is IN, a SPAN begins TODAY");
        HearingBoards x = out();
        due(x.recall(0), 1);
        due(x.told(0, 3), 0);
        due(x.served(0, 1), 0);
        due(x.served(0, 2), 1);

        terms("UNWOUND is a HEARING that is LET (of several of its CASE the one with the greatest number), while the CASE is OUT");
        due(x.unwind(0), NO);
        hear(x, 0);
        due(x.heard(0, 2), 2);
        due(x.heard(1, 2), 2);
        due(x.unwind(0), NO);
        due(x.unwind(1), 0);
        due(x.heard(1, 2), 3);
        due(x.unwind(0), NO);
        HearingBoards other = ready(2);
        law(other, "let 1");
        hear(other, 0);
        hear(other, 1);
        due(other.unwind(0), 0);

        terms("it is VOID, the CASE IN; a SPAN begins TODAY");
        due(other.heard(0, 2), 3);
        due(other.told(0, 3), 0);
        due(other.told(1, 3), 1);
        due(other.served(0, 2), 0);
        due(other.served(0, 3), 1);

        terms("or, if unwind is not 0 (d DAYS since the DAY of the HEARING), its latest SPAN goes on as if it had not ended");
        HearingBoards y = out();
        law(y, "unwind d=3");
        due(toDay(y, 3).unwind(0), 1);
        due(y.count(SPANS), 1);
        due(y.served(0, 3), 3);
        HearingBoards z = out();
        law(z, "unwind d=3");
        due(toDay(z, 4).unwind(0), 0);
        due(z.count(SPANS), 2);
        due(z.served(0, 5), 1);
        HearingBoards below = out();
        law(below, "unwind 0-d");
        due(below.unwind(0), 1);
        HearingBoards again = toDay(out(), 5);
        law(again, "unwind d=4");
        again.recall(0);
        toDay(again, 8);
        hear(again, 0);
        due(toDay(again, 12).unwind(1), 1);
        due(again.served(0, 12), 7);
    }

    // ======== 4: like cases, doubles

    private static void likeCases() {
        terms("other CASES of its OFFENCE whose MARKS differ from its in one at most");
        HearingBoards x = ready(6);
        int[] marks = {0b0110, 0b0110, 0b0111, 0b0010, 0b1010, 0b0110};
        for (int i = 0; i < 6; i++) x.be(i, 2, marks[i]);
        hear(x, 0);
        due(x.like(0, 0), 0);
        int[] like = {0, 1, 2, 3, 3};
        for (int i = 1; i < 5; i++) {
            hear(x, i);
            due(x.like(0, 0), like[i]);
        }
        HearingBoards other = ready(1);
        other.person(1, 0, 0, 0);
        hear(other, 0);
        due(other.like(1, 0), 0);

        terms("how many HEARINGS of theirs were HEARD or LET, how many LET");
        HearingBoards states = ready(2);
        int[][] rows = {{0, 0}, {0, 0}, {1, 0}, {2, 1}, {1, 0}};
        for (int i = 0; i < rows.length; i++) {
            if (i == 1) states.hearing(1, 0);
            if (i == 2) states.paper(3, 1, 0);
            if (i == 2) states.run(1);
            if (i == 3) law(states, "let 1");
            if (i == 3) hear(states, 1);
            if (i == 4) states.unwind(1);
            for (int what = 0; what < 2; what++) due(states.like(0, what), rows[i][what]);
        }

        terms("THE SHARE of these in hundredths (cut; NONE: none was HEARD)");
        HearingBoards y = ready(2);
        due(y.like(0, 2), NONE);
        y.hearing(1, 9);
        due(y.like(0, 2), NONE);
        HearingBoards z = ready(2);
        hear(z, 1);
        due(z.like(0, 2), 0);
        hear(z, 1);
        law(z, "let 1");
        hear(z, 1);
        due(z.like(0, 2), 33);
        z.recall(1);
        hear(z, 1);
        due(z.like(0, 2), 50);
        HearingBoards all = ready(2);
        law(all, "let 1");
        hear(all, 1);
        due(all.like(0, 2), 100);
        all.unwind(0);
        due(all.like(0, 2), NONE);
    }

    private static void doubles() {
        terms("DOUBLES, 20 at most: the same case to two boards of three MEMBERS: what each said (0, 1)");
        HearingBoards x = new HearingBoards();
        for (int i = 1; i <= 20; i++) due(x.twice(i % 2, 0), i);
        due(x.twice(0, 0), FULL);

        terms("SPREAD: hundredths of DOUBLES in which they differ (cut; NONE without)");
        due(x.spread(), 50);
        HearingBoards y = new HearingBoards();
        due(y.spread(), NONE);
        y.twice(1, 1);
        due(y.spread(), 0);
        y.twice(1, 0);
        y.twice(0, 1);
        due(y.spread(), 66);
        HearingBoards all = new HearingBoards();
        all.twice(0, 1);
        due(all.spread(), 100);

        terms("SEED (0 .. 65535) becomes 25173 times it and 13849, its rest by 65536, for each draw; of those left the one whose place (by numbers) is its rest by how many are left: three for the first board, three for the second one");
        int[] seeds = {0, 1, 32768, 65534, 65535};
        for (int seed : seeds) {
            HearingBoards z = until(6, MEMBERS, new HearingBoards(), w -> w.member(0, 0));
            z.seed(seed);
            long s = seed;
            int left = 63;
            int[] boards = new int[2];
            for (int i = 0; i < 6; i++) {
                s = (25173 * s + 13849) % 65536;
                int place = (int) (s % (6 - i));
                int rest = left;
                for (int j = 0; j < place; j++) rest &= rest - 1;
                boards[i / 3] |= Integer.lowestOneBit(rest);
                left &= ~Integer.lowestOneBit(rest);
            }
            due(z.draw(), boards[0] + 512 * boards[1]);
            due(z.count(SEED), (int) s);
        }
    }

    // ======== 5: sheets, images

    private static void sheets() {
        terms("SHEETS 0 .. 3 are rows of bytes (sort 0), shorts (1) or longs (2), with 0 to 24 places, or MISSING (at first)");
        HearingBoards x = new HearingBoards();
        for (int i = 0; i < 4; i++) due(x.add(i, 0, 0), NOTHING);
        due(x.add(4, 0, 0), BAD);
        due(x.add(-1, 0, 0), BAD);
        for (int sort = 0; sort < 3; sort++) {
            due(x.sheet(sort, sort, 0), 0);
            due(x.add(sort, 0, 0), INDEX);
            due(x.sheet(sort, sort, 24), 24);
            due(x.add(sort, 23, 0), 0);
            due(x.add(sort, 24, 0), INDEX);
            due(x.sheet(sort, sort, 25), BAD);
        }

        terms("NOTHING: a SHEET is MISSING; INDEX: there is no such place; SIZE: a number of places is below 0; KIND: it is none (of a KIND)");
        due(x.add(3, 0, 0), NOTHING);
        due(x.add(0, -1, 0), INDEX);
        due(x.sheet(0, 0, -1), SIZE);
        due(rich().as(0, 1), KIND);
    }

    private static void images() {
        terms("AN IMAGE keeps all but SHEETS, numbers that wait, THE TAPE; all can become as it is (again and again)");
        HearingBoards x = rich();
        for (int i = 0; i < 3; i++) {
            due(x.restore(), 10);
            due(x.count(HEARINGS), 3);
            due(x.count(WAITING), 8);
            due(x.count(BYTES), 10);
            due(x.add(2, 2, 0), 17);
            x.run(9);
            x.person(0, 0, 0, 0);
        }
        HearingBoards as = rich();
        as.restore();
        as.trim(0);
        as.check(1);
        alike(as, kept());
        HearingBoards one = rich();
        HearingBoards other = rich();
        one.restore();
        one.run(30);
        one.gone(1);
        one.restore();
        other.restore();
        alike(one, other);

        terms("SERVED of all CASES together (on the DAY that is then TODAY), and how many are OUT, behind each of n DAYS from THE IMAGE on");
        HearingBoards y = ready(2);
        law(y, "let 1");
        y.paper(3, 0, 1);
        y.hearing(0, 1);
        y.keep();
        int[] days = {2, 0, 3, 1, 4, 1};
        for (int v : days) y.tell(v);
        due(y.check(3), 0);

        terms("(nobody doing anything)");
        y.recall(0);
        y.gone(1);
        y.run(3);
        for (int v : days) y.tell(v);
        due(y.check(3), 0);
        due(y.count(TODAY), 3);
        due(y.told(1, 3), 2);
        HearingBoards nobody = new HearingBoards();
        nobody.keep();
        nobody.tell(0);
        nobody.tell(0);
        due(nobody.check(1), 0);
    }

    public static void main(String[] args) {
        days();
        cases();
        sentences();
        spans();
        gaps();
        credits();
        papers();
        boards();
        hearings();
        causes();
        puttingOff();
        order();
        holding();
        risks();
        returning();
        likeCases();
        doubles();
        sheets();
        images();
        finish(1, 0);
    }
}
