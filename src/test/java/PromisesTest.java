import java.util.function.IntSupplier;

/** Each promise of the document by itself: ordinary calls, its edges, and calls that it refuses. */
public final class PromisesTest {
    private static final int BAD = HearingBoards.BAD, NO = HearingBoards.NO, FULL = HearingBoards.FULL, NONE = HearingBoards.NONE;
    private static final int NOTHING = HearingBoards.NOTHING, KIND = HearingBoards.KIND, INDEX = HearingBoards.INDEX, SIZE = HearingBoards.SIZE;

    private static int promise;
    private static int step;
    private static int asked;
    private static int wrong;

    private static void start(int number) {
        promise = number;
        step = 0;
    }

    private static void due(int got, int want) {
        step++;
        asked++;
        if (got == want) return;
        wrong++;
        System.out.println("promise " + promise + ", step " + step + ": answered " + got + ", due is " + want);
    }

    private static void times(int many, IntSupplier call) {
        for (int i = 0; i < many; i++) call.getAsInt();
    }

    // ---- what many promises need

    private static void feed(HearingBoards x, String text) {
        x.trim(0);
        for (int i = 0; i < text.length(); i += 12) {
            int[] v = new int[3];
            for (int j = 0; j < 12; j++) v[j / 4] = v[j / 4] << 8 | (i + j < text.length() ? text.charAt(i + j) : 0);
            x.feed(v[0], v[1], v[2]);
        }
        x.trim(text.length());
    }

    private static int law(HearingBoards x, String text, int offence, int day) {
        feed(x, text);
        return x.text(offence, day);
    }

    private static int law(HearingBoards x, String text) {
        return law(x, text, 8, 0);
    }

    /** One case (offence 0, prison 0) that is due at once, with a report and three members for all prisons. */
    private static HearingBoards ready() {
        HearingBoards x = new HearingBoards();
        x.person(0, 0, 1, 0);
        times(3, () -> x.member(0, 63));
        x.paper(1, 0, 999);
        return x;
    }

    /** Its hearing (0) is held, and lets it out, on day 0; it is day 1 then. */
    private static HearingBoards out() {
        HearingBoards x = ready();
        law(x, "let 1");
        x.paper(3, 0, 0);
        x.hearing(0, 0);
        x.run(1);
        return x;
    }

    /** Notice, hearing and the day of it, for a case that has all else; so many times. */
    private static void hear(HearingBoards x, int person, int many) {
        for (int i = 0; i < many; i++) {
            x.paper(3, person, x.count(16));
            x.hearing(person, x.count(16));
            x.run(1);
        }
    }

    /** So many spans more than there were. */
    private static void useSpans(HearingBoards x, int person, int many) {
        for (int i = 0; i < many; i++) {
            x.flee(person);
            x.caught(person);
        }
    }

    // ---- 1 to 15: cases, time

    private static void newObject() {
        start(1);
        HearingBoards x = new HearingBoards();
        for (int i = 0; i <= 17; i++) due(x.count(i), 0);
        due(x.told(0, 0), BAD);
        due(x.spread(), NONE);
        due(x.restore(), NO);
        due(x.seed(0), 0);
        due(x.table(3, 1, 0), 0);
        due(x.same(0, 0), 0);
        due(x.add(0, 0, 1), NOTHING);
        due(x.puts(1), 0);
        due(x.text(8, 0), -100);
        due(HearingBoards.BAD, -1000000001);
        due(HearingBoards.NO, -1000000002);
        due(HearingBoards.FULL, -1000000003);
        due(HearingBoards.NONE, -1000000005);
        due(HearingBoards.NOTHING, -1000000011);
        due(HearingBoards.KIND, -1000000012);
        due(HearingBoards.INDEX, -1000000013);
        due(HearingBoards.SIZE, -1000000014);
    }

    private static void person() {
        start(2);
        HearingBoards x = new HearingBoards();
        due(x.person(7, 5, 255, 1), 0);
        due(x.person(0, 0, 0, 0), 1);
        due(x.count(1), 2);
        due(x.count(5), 2);
        due(x.person(-1, 0, 0, 0), BAD);
        due(x.person(8, 0, 0, 0), BAD);
        due(x.person(0, -1, 0, 0), BAD);
        due(x.person(0, 6, 0, 0), BAD);
        due(x.person(0, 0, -1, 0), BAD);
        due(x.person(0, 0, 256, 0), BAD);
        due(x.person(0, 0, 0, -1), BAD);
        due(x.person(0, 0, 0, 2), BAD);
        due(x.count(0), 2);
        times(10, () -> x.person(1, 1, 1, 1));
        due(x.count(0), 12);
        due(x.person(1, 1, 1, 1), FULL);
        due(x.person(1, 1, 1, 2), BAD);
        HearingBoards y = new HearingBoards();
        y.person(0, 0, 0, 0);
        useSpans(y, 0, 28);
        due(y.person(0, 0, 0, 0), 1);
        due(y.count(5), 30);
        due(y.person(0, 0, 0, 0), FULL);
        due(y.count(0), 2);
        y.run(5);
        due(y.served(1, 5), 5);
        HearingBoards z = new HearingBoards();
        z.run(4);
        z.person(0, 0, 0, 0);
        due(z.served(0, 4), 0);
        due(z.served(0, 6), 2);
    }

    private static void told() {
        start(3);
        HearingBoards x = ready();
        x.person(3, 4, 0xF0, 1);
        int[] want = {3, 4, 0xF0, 0, 1, 0, 0, 0, 0, NONE};
        for (int i = 0; i <= 9; i++) due(x.told(1, i), want[i]);
        x.sentence(1, 30, 0);
        x.sentence(1, 10, 0);
        due(x.told(1, 5), 30);
        x.sentence(1, 7, 1);
        x.sentence(1, 5, 1);
        due(x.told(1, 5), 42);
        x.sentence(0, 9, 1);
        due(x.told(0, 5), 9);
        x.table(4, 0, 2);
        x.table(4, 2, 1);
        due(x.told(1, 7), 0);
        x.table(4, 1, 3);
        due(x.told(1, 7), 66);
        due(x.told(1, 8), 33);
        x.hearing(1, 5);
        due(x.told(1, 9), 0);
        due(x.told(-1, 0), BAD);
        due(x.told(2, 0), BAD);
        due(x.told(0, -1), BAD);
        due(x.told(0, 10), BAD);
        HearingBoards y = out();
        due(y.told(0, 3), 1);
        due(y.told(0, 6), 1);
        due(y.told(0, 9), NONE);
        y.unwind(0);
        due(y.told(0, 6), 1);
        hear(y, 0, 1);
        due(y.told(0, 6), 2);
        y.gone(0);
        due(y.told(0, 3), 2);
    }

    private static void tableRows() {
        start(3);
        HearingBoards x = new HearingBoards();
        int[] marks = {0, 4, 3, 0x70, 0xF0, 0xF8, 0xFC, 0xFE, 0xFF};
        for (int i = 0; i < 9; i++) x.person(0, 0, marks[i], 0);
        for (int i = 0; i < 8; i++) {
            x.table(i, 0, i + 1);
            x.table(i, 1, 100);
            x.table(i, 2, 20 + i);
        }
        for (int i = 0; i < 9; i++) {
            due(x.told(i, 7), i % 8 + 1);
            due(x.told(i, 8), i % 8 + 20);
        }
        x.table(0, 0, 9999);
        x.table(0, 1, 1);
        due(x.told(0, 7), 999900);
    }

    private static void be() {
        start(4);
        HearingBoards x = new HearingBoards();
        x.person(2, 3, 5, 0);
        due(x.be(0, 1, 5), 3);
        due(x.be(0, 2, 255), 5);
        due(x.be(0, 4, 1), 0);
        due(x.told(0, 1), 5);
        due(x.told(0, 2), 255);
        due(x.told(0, 4), 1);
        due(x.be(0, 1, 0), 5);
        due(x.be(0, 2, 0), 255);
        due(x.be(0, 4, 0), 1);
        for (int what : new int[] {-1, 0, 3, 5, 6}) due(x.be(0, what, 0), BAD);
        due(x.be(0, 1, 6), BAD);
        due(x.be(0, 1, -1), BAD);
        due(x.be(0, 2, 256), BAD);
        due(x.be(0, 2, -1), BAD);
        due(x.be(0, 4, 2), BAD);
        due(x.be(0, 4, -1), BAD);
        due(x.be(1, 1, 0), BAD);
        due(x.be(-1, 1, 0), BAD);
        due(x.told(0, 0), 2);
        due(x.told(0, 1), 0);
        x.gone(0);
        due(x.be(0, 1, 2), 0);
    }

    private static void sentence() {
        start(5);
        HearingBoards x = new HearingBoards();
        x.person(0, 0, 0, 0);
        x.person(0, 0, 0, 0);
        due(x.sentence(0, 1, 0), 0);
        due(x.sentence(0, 9999, 1), 1);
        due(x.told(0, 5), 10000);
        due(x.told(1, 5), 0);
        due(x.sentence(0, 0, 0), BAD);
        due(x.sentence(0, 10000, 0), BAD);
        due(x.sentence(0, 5, 2), BAD);
        due(x.sentence(0, 5, -1), BAD);
        due(x.sentence(2, 5, 0), BAD);
        x.gone(1);
        due(x.sentence(1, 5, 0), NO);
        due(x.sentence(1, 0, 0), BAD);
        times(22, () -> x.sentence(0, 9999, 1));
        due(x.count(4), 24);
        due(x.sentence(0, 5, 0), FULL);
        due(x.sentence(1, 5, 0), NO);
        due(x.told(0, 5), 23 * 9999 + 1);
    }

    private static void gap() {
        start(6);
        HearingBoards x = new HearingBoards();
        x.person(0, 0, 0, 0);
        x.person(0, 0, 0, 0);
        due(x.gap(0, 5, 6), 1);
        due(x.gap(0, 2, 4), 2);
        due(x.gap(1, 0, 9999), 3);
        due(x.gap(0, 3, 8), 4);
        due(x.served(0, 20), 14);
        due(x.served(0, 3), 2);
        due(x.served(1, 9999), 0);
        due(x.gap(0, 5, 5), BAD);
        due(x.gap(0, 6, 5), BAD);
        due(x.gap(0, -1, 5), BAD);
        due(x.gap(0, 5, 10000), BAD);
        due(x.gap(2, 5, 6), BAD);
        due(x.gap(-1, 5, 6), BAD);
        x.gone(1);
        due(x.gap(1, 1, 2), 5);
        times(15, () -> x.gap(0, 30, 31));
        due(x.count(6), 20);
        due(x.gap(0, 1, 2), FULL);
        due(x.gap(0, 2, 2), BAD);
        due(x.served(0, 40), 33);
    }

    private static void fleeAndCaught() {
        start(7);
        HearingBoards x = new HearingBoards();
        x.person(0, 0, 0, 0);
        x.run(3);
        due(x.flee(0), 1);
        due(x.told(0, 3), 0);
        due(x.count(5), 1);
        due(x.flee(0), NO);
        due(x.flee(1), BAD);
        due(x.flee(-1), BAD);
        x.run(5);
        due(x.served(0, 8), 3);
        start(8);
        due(x.caught(1), BAD);
        due(x.caught(-1), BAD);
        due(x.caught(0), 1);
        due(x.caught(0), NO);
        due(x.count(5), 2);
        due(x.served(0, 8), 3);
        due(x.served(0, 10), 5);
        due(x.flee(0), 1);
        due(x.caught(0), 1);
        due(x.served(0, 10), 5);
        due(x.flee(0), 1);
        due(x.gone(0), 1);
        due(x.caught(0), NO);
        due(x.flee(0), NO);
        HearingBoards y = new HearingBoards();
        y.person(0, 0, 0, 0);
        useSpans(y, 0, 29);
        due(y.count(5), 30);
        due(y.flee(0), 1);
        due(y.caught(0), FULL);
        due(y.flee(0), NO);
        HearingBoards z = out();
        due(z.flee(0), NO);
        due(z.caught(0), NO);
    }

    /** One who fled and is let has no span to end; the one that begins as it is recalled is its only one. */
    private static void letWhileFled() {
        start(7);
        HearingBoards x = ready();
        law(x, "let 1");
        x.run(2);
        x.flee(0);
        x.run(3);
        hear(x, 0, 1);
        due(x.told(0, 3), 1);
        due(x.served(0, 6), 2);
        x.run(1);
        due(x.recall(0), 1);
        due(x.caught(0), NO);
        due(x.flee(0), 1);
        due(x.caught(0), 1);
        due(x.count(5), 3);
        due(x.served(0, 10), 5);
        hear(x, 0, 1);
        law(x, "unwind 1");
        due(x.unwind(1), 1);
        due(x.served(0, 10), 5);
        HearingBoards y = ready();
        law(y, "let 1");
        law(y, "unwind 1");
        y.run(2);
        y.flee(0);
        hear(y, 0, 1);
        due(y.unwind(0), 1);
        due(y.served(0, 9), 9);
        due(y.caught(0), NO);
    }

    private static void gone() {
        start(9);
        HearingBoards x = new HearingBoards();
        x.person(0, 0, 0, 0);
        x.run(2);
        due(x.gone(1), BAD);
        due(x.gone(-1), BAD);
        due(x.gone(0), 1);
        due(x.gone(0), NO);
        due(x.told(0, 3), 2);
        due(x.served(0, 99), 2);
        due(x.count(3), 1);
        due(x.date(0), NONE);
        HearingBoards y = out();
        due(y.gone(0), 1);
        due(y.served(0, 99), 0);
        due(y.recall(0), NO);
        due(y.unwind(0), NO);
    }

    private static void served() {
        start(10);
        HearingBoards x = new HearingBoards();
        x.run(5);
        x.person(0, 0, 0, 0);
        due(x.served(0, 0), 0);
        due(x.served(0, 5), 0);
        due(x.served(0, 6), 1);
        due(x.served(0, 9999), 9994);
        due(x.served(0, 10000), BAD);
        due(x.served(0, -1), BAD);
        due(x.served(1, 5), BAD);
        x.gap(0, 0, 6);
        x.gap(0, 8, 9);
        x.gap(0, 9, 11);
        x.gap(0, 7, 10);
        due(x.served(0, 7), 1);
        due(x.served(0, 9), 1);
        due(x.served(0, 11), 1);
        due(x.served(0, 12), 2);
        x.gap(0, 12, 9999);
        due(x.served(0, 9999), 2);
    }

    private static void credit() {
        start(11);
        HearingBoards x = new HearingBoards();
        x.person(0, 0, 0, 0);
        x.person(0, 0, 0, 0);
        due(x.credit(0, 99), 0);
        due(x.credit(0, -99), 1);
        due(x.credit(0, 100), BAD);
        due(x.credit(0, -100), BAD);
        due(x.credit(0, 0), BAD);
        due(x.credit(2, 1), BAD);
        x.gone(1);
        due(x.credit(1, 1), NO);
        due(x.credit(1, 0), BAD);
        times(38, () -> x.credit(0, 1));
        due(x.credits(0, 0), 38);
        due(x.credit(0, 1), FULL);
        due(x.credit(1, 1), NO);
        start(12);
        HearingBoards y = new HearingBoards();
        y.person(0, 0, 0, 0);
        y.credit(0, 5);
        y.credit(0, -3);
        y.credit(0, -4);
        due(y.back(-1), BAD);
        due(y.back(3), BAD);
        due(y.back(0), KIND);
        due(y.back(2), 1);
        due(y.back(2), NO);
        due(y.credits(0, 0), 2);
        y.run(4);
        y.gone(0);
        due(y.back(1), 1);
        due(y.back(1), NO);
        start(13);
        due(y.credits(0, 0), 2);
        due(y.credits(0, 3), 2);
        due(y.credits(0, 4), 5);
        due(y.credits(0, 2999), 5);
        due(y.credits(0, 3000), BAD);
        due(y.credits(0, -1), BAD);
        due(y.credits(1, 0), BAD);
        y.person(0, 0, 0, 0);
        y.credit(1, 9);
        due(y.credits(1, 3), 0);
        due(y.credits(1, 4), 9);
        due(y.credits(0, 4), 5);
    }

    private static void due() {
        start(14);
        HearingBoards x = new HearingBoards();
        x.person(0, 0, 0, 0);
        due(x.due(0, 0), 1);
        x.sentence(0, 21, 0);
        due(x.due(0, 9), 0);
        due(x.due(0, 10), 1);
        due(x.due(0, 9999), 1);
        due(x.due(0, 10000), BAD);
        due(x.due(0, -1), BAD);
        due(x.due(1, 0), BAD);
        x.run(4);
        x.credit(0, -6);
        due(x.due(0, 15), 0);
        due(x.due(0, 16), 1);
        due(x.due(0, 3), 0);
        x.credit(0, 13);
        due(x.due(0, 3), 0);
        due(x.due(0, 4), 1);
        law(x, "first t+c*100+h");
        due(x.due(0, 700), 0);
        due(x.due(0, 713), 0);
        due(x.due(0, 714), 1);
        law(x, "first 0", 0, 5);
        due(x.due(0, 5), 0);
        x.run(1);
        due(x.due(0, 5), 1);
        due(x.due(0, 0), 1);
        x.gone(0);
        due(x.due(0, 5), 1);
        HearingBoards y = ready();
        law(y, "first h*50");
        hear(y, 0, 1);
        due(y.due(0, 49), 0);
        due(y.due(0, 50), 1);
    }

    private static void date() {
        start(15);
        HearingBoards x = new HearingBoards();
        x.person(0, 0, 0, 0);
        due(x.date(0), 0);
        due(x.date(1), BAD);
        due(x.date(-1), BAD);
        x.sentence(0, 20, 0);
        due(x.date(0), 10);
        x.gap(0, 4, 6);
        x.gap(0, 12, 14);
        due(x.date(0), 12);
        x.gap(0, 11, 12);
        due(x.date(0), 15);
        x.run(3);
        x.credit(0, 4);
        due(x.date(0), 8);
        x.flee(0);
        due(x.date(0), NONE);
        x.credit(0, 3);
        due(x.date(0), 3);
        x.run(2);
        due(x.date(0), 5);
        HearingBoards y = new HearingBoards();
        y.person(0, 0, 0, 0);
        law(y, "first 2999");
        due(y.date(0), 2999);
        law(y, "first 3000");
        due(y.date(0), NONE);
        y.run(1);
        due(y.date(0), 3000);
        y.gap(0, 500, 501);
        due(y.date(0), NONE);
        y.run(1);
        due(y.date(0), 3001);
        y.gone(0);
        law(y, "first 0");
        due(y.date(0), NONE);
        HearingBoards z = out();
        due(z.date(0), NONE);
    }

    // ---- 16 to 21: texts

    private static void tape() {
        start(16);
        HearingBoards x = new HearingBoards();
        for (int i = 1; i <= 8; i++) due(x.feed(0, -1, i), 12 * i);
        due(x.feed(1, 2, 3), FULL);
        due(x.count(15), 96);
        start(17);
        due(x.trim(97), BAD);
        due(x.trim(-1), BAD);
        due(x.trim(96), 96);
        due(x.trim(85), 85);
        due(x.feed(1, 2, 3), FULL);
        due(x.trim(84), 84);
        due(x.feed(1, 2, 3), 96);
        due(x.trim(0), 0);
        due(x.trim(1), BAD);
        // "let " "12  " "    ": the highest byte first
        due(x.feed(0x6C657420, 0x31322020, 0x20202020), 12);
        due(x.text(8, 0), 0);
        due(x.rules(0, 2, 0, 0, 0, 0), 12);
        due(x.count(15), 0);
    }

    private static void text() {
        start(18);
        HearingBoards x = new HearingBoards();
        due(law(x, "let 1", 9, 0), BAD);
        due(x.count(15), 0);
        due(law(x, "let 1", -1, 0), BAD);
        due(law(x, "let 1", 0, -1), BAD);
        due(law(x, "let 1", 0, 3000), BAD);
        due(law(x, "", 9, 0), BAD);
        due(law(x, "let", 0, 0), -103);
        due(x.count(15), 0);
        due(x.count(8), 0);
        due(law(x, "let 1", 7, 2999), 0);
        due(law(x, "let 1", 8, 0), 1);
        times(14, () -> law(x, "let 1"));
        due(x.count(8), 16);
        due(law(x, "let 1"), FULL);
        due(x.count(15), 0);
        due(law(x, "let ?"), -104);
        due(law(x, "let 1", 0, 3000), BAD);
    }

    private static void faults() {
        start(18);
        Object[][] rows = {
            {"", 0}, {" ", 1}, {"   ", 3}, {"first", 5}, {"first ", 6}, {"fist t", 0}, {" fist t", 1}, {"firstt", 0}, {"first2", 5},
            {"12", 0}, {"t", 0}, {"!", 0}, {"First t", 0}, {"first T", 6}, {"first t t", 8}, {"first t2", 7}, {"first 2t", 7},
            {"first tc", 6}, {"first tz", 6}, {"first ta", 6}, {"first t{", 7}, {"first t`", 7}, {"first 1:", 7}, {"first v", 6}, {"notice t", 7}, {"let t", 4}, {"let w", 4}, {"again d", 6}, {"unwind w", 7},
            {"first 12345", 6}, {"first 1234 5", 11}, {"first 00001", 6}, {"first t+", 8}, {"first t +  ", 11}, {"first +t", 6},
            {"first t<c<h", 9}, {"first t<c=h", 9}, {"first (t<c", 10}, {"first t)", 7}, {"first ()", 7}, {"first (t))", 9},
            {"first t!", 7}, {"first t&&c", 8}, {"first t<>c", 8}, {"first t\nc", 7}, {"first t,c", 7}, {"first\tt", 5},
            {"first t" + (char) 0, 7}, {"first t" + (char) 255, 7}, {"first first t", 6}, {"let first", 4}, {"first let", 6},
            {"first !!!!!!!!!t", 14}, {"first ! ! ! ! ! ! ! ! ! t", 22}, {"first (((((((((t", 14}, {"first !(!(!(!(!(!(!(!(!t", 22},
            {"first !!!!!!!!(!t)", 15}, {"first (((((((((t)))))))))", 14}, {"first ((((((((t)))))))", 22}, {"first t & (c | h", 16},
            {"first t $", 8}, {"first t+*c", 8}, {"first 1 (t)", 8}, {"first t(c)", 7}, {"first )", 6}, {"let -r", 4}, {"let r=1 2", 8},
        };
        HearingBoards x = new HearingBoards();
        for (Object[] row : rows) due(law(x, (String) row[0]), -100 - (Integer) row[1]);
        due(x.count(8), 0);
    }

    private static void goodTexts() {
        start(18);
        String[] texts = {"first t", " first  t ", "first(t)", "first!t", "notice 0007", "let r<1&h>2|c=3&s", "let(r<1)<2", "let (r<(h<c))=s",
            "first ((((((((t))))))))", "first !!!!!!!!t", "first !((((((((!t))))))))", "first !!!!!!!!t+!!!!!!!!c", "first ((((((((t))))))))+((((((((c))))))))",
            "first t < c & t < c | t < c", "first !(t<c)", "first ! ! t"};
        HearingBoards x = new HearingBoards();
        for (int i = 0; i < texts.length; i++) due(law(x, texts[i]), i);
        HearingBoards y = new HearingBoards();
        StringBuilder whole = new StringBuilder("let 1");
        while (whole.length() < 95) whole.append("+1");
        due(law(y, whole + " "), 0);
        due(y.rules(0, 2, 0, 0, 0, 0), 46);
        due(y.of(0, 3), 46);
        due(law(y, whole + "+"), -196);
    }

    private static void of() {
        start(19);
        HearingBoards x = new HearingBoards();
        String[] texts = {"first t+c*2", "notice v", "let r<40&!(h|0)", "again 7", "unwind d-d/10*0001"};
        int[] leaves = {3, 1, 4, 1, 4};
        for (int i = 0; i < 5; i++) law(x, texts[i], i == 4 ? 8 : i, 100 * i);
        for (int i = 0; i < 5; i++) {
            due(x.of(i, 0), i);
            due(x.of(i, 1), i == 4 ? 8 : i);
            due(x.of(i, 2), 100 * i);
            due(x.of(i, 3), leaves[i]);
        }
        due(x.of(5, 0), BAD);
        due(x.of(-1, 0), BAD);
        due(x.of(0, 4), BAD);
        due(x.of(0, -1), BAD);
    }

    private static void why() {
        start(20);
        HearingBoards x = new HearingBoards();
        due(x.why(0, 0), NONE);
        law(x, "let 1", 8, 5);
        due(x.why(0, 2), NONE);
        x.run(5);
        due(x.why(0, 2), 0);
        due(x.why(7, 2), 0);
        due(x.why(0, 1), NONE);
        law(x, "let 2", 1, 4);
        due(x.why(1, 2), 0);
        law(x, "let 3", 1, 5);
        due(x.why(1, 2), 2);
        due(x.why(2, 2), 0);
        law(x, "let 4", 8, 5);
        due(x.why(1, 2), 3);
        law(x, "let 5", 1, 6);
        law(x, "let 6", 1, 0);
        due(x.why(1, 2), 3);
        x.run(1);
        due(x.why(1, 2), 4);
        due(x.why(0, 2), 3);
        due(x.why(-1, 0), BAD);
        due(x.why(8, 0), BAD);
        due(x.why(0, -1), BAD);
        due(x.why(0, 5), BAD);
    }

    private static void rules() {
        start(21);
        HearingBoards x = new HearingBoards();
        due(x.rules(0, 0, 7, 1, 1, 1), 3);
        due(x.rules(0, 0, -7, 1, 1, 1), 0);
        due(x.rules(0, 0, 199998, 0, 0, 0), 99999);
        due(x.rules(0, 0, 2147483647, 0, 0, 0), 99999);
        due(x.rules(0, 1, 1, 0, 0, 0), 7);
        due(x.rules(0, 1, 15, 0, 0, 0), 99);
        due(x.rules(0, 1, -1, 0, 0, 0), 0);
        due(x.rules(0, 2, 1, 2, 3, 4), 0);
        due(x.rules(0, 3, 1, 2, 3, 4), 28);
        due(x.rules(7, 4, 1, 2, 3, 4), 0);
        due(x.rules(8, 0, 0, 0, 0, 0), BAD);
        due(x.rules(-1, 0, 0, 0, 0, 0), BAD);
        due(x.rules(0, 5, 0, 0, 0, 0), BAD);
        due(x.rules(0, -1, 0, 0, 0, 0), BAD);
        law(x, "first t*100+c*10+h");
        due(x.rules(0, 0, 3, 2, 1, 9), 321);
        due(x.rules(0, 0, 1000, 0, 0, 0), 99999);
        due(x.rules(0, 0, 0, -1, 0, 0), 0);
        law(x, "notice v+1");
        due(x.rules(0, 1, 4, 9, 9, 9), 5);
        due(x.rules(0, 1, 99, 9, 9, 9), 99);
        due(x.rules(0, 1, -9, 9, 9, 9), 0);
        law(x, "let r*1000+h*100+c*10+s");
        due(x.rules(0, 2, 4, 3, 2, 1), 4321);
        due(x.rules(0, 2, 0, 0, 0, -1), -1);
        law(x, "again w");
        due(x.rules(0, 3, 50, 1, 1, 1), 50);
        due(x.rules(0, 3, 0, 1, 1, 1), 1);
        due(x.rules(0, 3, 100, 1, 1, 1), 99);
        law(x, "unwind 0-d");
        due(x.rules(0, 4, 5, 1, 1, 1), -5);
        law(x, "let 5", 3, 0);
        due(x.rules(3, 2, 1, 0, 0, 0), 5);
        due(x.rules(2, 2, 0, 0, 0, 2), 2);
    }

    private static void values() {
        start(21);
        Object[][] rows = {
            {"1+2*3", 7}, {"(1+2)*3", 9}, {"7-2-1", 4}, {"100/10/5", 2}, {"7/2*2", 6}, {"2-3*4", -10}, {"0-7/2", -3}, {"(0-7)/2", -3},
            {"5/0", 0}, {"5/0+1", 1}, {"!0", 1}, {"!5", 0}, {"!!5", 1}, {"!0*5", 5}, {"!(1<0)", 1}, {"3<4", 1}, {"4<4", 0}, {"4=4", 1},
            {"4=5", 0}, {"4>4", 0}, {"5>4", 1}, {"1+1=2", 1}, {"2&4", 1}, {"2&0", 0}, {"0|4", 1}, {"0|0", 0}, {"1|0&0", 1}, {"(1|0)&0", 0},
            {"0&1=1", 0}, {"5", 5}, {"(5)", 5}, {"1<2=1", null}, {"0001+0010", 11}, {"9999*9999*9999", (int) (9999L * 9999 * 9999)},
            {"0-1&1", 1}, {"!0+!0", 2}, {"3>2>1", null}, {"8-!3", 8}, {"r-h-c-s", -8}, {"s-r", 3}, {"!r<1", 1},
        };
        for (Object[] row : rows) {
            HearingBoards x = new HearingBoards();
            boolean good = law(x, "let " + row[0]) == 0;
            due(good ? 1 : 0, row[1] == null ? 0 : 1);
            if (good && row[1] != null) due(x.rules(0, 2, 1, 2, 3, 4), (Integer) row[1]);
        }
        HearingBoards x = new HearingBoards();
        law(x, "let r/h");
        due(x.rules(0, 2, Integer.MIN_VALUE, -1, 0, 0), Integer.MIN_VALUE);
        due(x.rules(0, 2, 9, 0, 0, 0), 0);
    }

    // ---- 22 to 35: papers, boards, hearings

    private static void paper() {
        start(22);
        HearingBoards x = new HearingBoards();
        x.person(0, 0, 0, 0);
        x.run(3);
        due(x.paper(0, 0, 0), 0);
        due(x.paper(1, 0, 1), 1);
        due(x.paper(2, 0, 999), 2);
        due(x.paper(3, 0, 3), 3);
        due(x.paper(4, 0, 9), 4);
        due(x.paper(3, 0, 9999), 5);
        due(x.paper(4, 0, 0), 6);
        due(x.paper(0, 0, 1), BAD);
        due(x.paper(1, 0, 0), BAD);
        due(x.paper(1, 0, 1000), BAD);
        due(x.paper(2, 0, 0), BAD);
        due(x.paper(2, 0, 1000), BAD);
        due(x.paper(3, 0, 2), BAD);
        due(x.paper(3, 0, 10000), BAD);
        due(x.paper(4, 0, -1), BAD);
        due(x.paper(4, 0, 10), BAD);
        due(x.paper(5, 0, 0), BAD);
        due(x.paper(-1, 0, 0), BAD);
        due(x.paper(0, 1, 0), BAD);
        start(23);
        int[][] want = {{0, 0, 0, 3, NONE}, {1, 0, 1, 3, 3}, {2, 0, 999, 3, 1001}, {3, 0, 3, 3, NONE}, {4, 0, 9, 3, NONE}};
        for (int i = 0; i < 5; i++) {
            for (int j = 0; j < 5; j++) due(x.paperTold(i, j), want[i][j]);
        }
        due(x.paperTold(7, 0), BAD);
        due(x.paperTold(-1, 0), BAD);
        due(x.paperTold(0, 5), BAD);
        due(x.paperTold(0, -1), BAD);
        start(24);
        int[] a = {0, 1, 999, 3, 9};
        String[] under = {"10000", "11000", "11100", "10010", "10001"};
        for (int i = 0; i < 5; i++) {
            for (int j = 0; j < 5; j++) due(x.as(i, j), under[i].charAt(j) == '1' ? a[i] : KIND);
        }
        due(x.as(0, 5), BAD);
        due(x.as(0, -1), BAD);
        due(x.as(7, 0), BAD);
        start(22);
        x.gone(0);
        due(x.paper(0, 0, 0), 7);
        times(32, () -> x.paper(0, 0, 0));
        due(x.count(9), 40);
        due(x.paper(0, 0, 0), FULL);
        due(x.paper(0, 0, 1), BAD);
    }

    private static void member() {
        start(25);
        HearingBoards x = new HearingBoards();
        due(x.member(127, 63), 0);
        due(x.member(0, 0), 1);
        due(x.member(128, 0), BAD);
        due(x.member(-1, 0), BAD);
        due(x.member(0, 64), BAD);
        due(x.member(0, -1), BAD);
        times(7, () -> x.member(5, 9));
        due(x.count(10), 9);
        due(x.member(0, 0), FULL);
        due(x.member(0, 64), BAD);
        start(26);
        x.person(0, 0, 0, 0);
        x.person(0, 0, 0, 0);
        due(x.conflict(8, 1, 1), 0);
        due(x.conflict(8, 1, 1), 1);
        due(x.conflict(8, 0, 0), 0);
        due(x.is(8, 2), 2);
        due(x.conflict(8, 0, 1), 0);
        due(x.is(8, 2), 3);
        due(x.conflict(8, 1, 0), 1);
        due(x.is(8, 2), 1);
        due(x.is(7, 2), 0);
        due(x.conflict(9, 0, 1), BAD);
        due(x.conflict(-1, 0, 1), BAD);
        due(x.conflict(0, 2, 1), BAD);
        due(x.conflict(0, -1, 1), BAD);
        due(x.conflict(0, 0, 2), BAD);
        due(x.conflict(0, 0, -1), BAD);
        start(27);
        due(x.is(0, 0), 127);
        due(x.is(0, 1), 63);
        due(x.is(2, 0), 5);
        due(x.is(2, 1), 9);
        due(x.is(2, 3), 0);
        due(x.is(9, 0), BAD);
        due(x.is(-1, 0), BAD);
        due(x.is(0, 4), BAD);
        due(x.is(0, -1), BAD);
    }

    private static void board() {
        start(28);
        HearingBoards x = new HearingBoards();
        x.person(0, 0, 0, 0);
        x.person(0, 0, 0, 0);
        due(x.board(0, 0, 0), NONE);
        x.member(0, 63);
        x.member(1, 63);
        due(x.board(0, 0, 0), NONE);
        x.member(0, 62);
        due(x.board(0, 0, 1), NONE);
        due(x.board(3, 1, 1), 12);
        due(x.board(0, 1, 0), NONE);
        due(x.board(0, 1, 7), NONE);
        due(x.board(0, 1, 9999), 12);
        x.member(0, 32);
        due(x.board(0, 5, 0), 23);
        due(x.board(0, 5, 1), 12);
        x.conflict(1, 1, 1);
        due(x.board(1, 5, 1), 12);
        due(x.board(2, 5, 1), 23);
        due(x.board(3, 5, 1), 23);
        due(x.board(4, 5, 1), BAD);
        due(x.board(-1, 5, 1), BAD);
        due(x.board(0, 6, 1), BAD);
        due(x.board(0, -1, 1), BAD);
        due(x.board(0, 0, -1), BAD);
        due(x.board(0, 0, 10000), BAD);
        HearingBoards y = ready();
        y.member(0, 63);
        y.member(0, 63);
        due(y.board(1, 0, 1), 12);
        hear(y, 0, 1);
        due(y.is(0, 3), 1);
        due(y.is(3, 3), 0);
        due(y.board(1, 0, 1), 34);
        hear(y, 0, 1);
        int[] turns = {2, 1, 1, 1, 1};
        for (int i = 0; i < 5; i++) due(y.is(i, 3), turns[i]);
        due(y.board(1, 0, 1), 123);
        y.conflict(1, 0, 1);
        due(y.board(1, 0, 1), 234);
        due(y.board(0, 0, 1), 123);
    }

    private static void hearing() {
        start(29);
        HearingBoards x = new HearingBoards();
        x.person(0, 0, 0, 0);
        x.person(0, 0, 0, 0);
        x.person(0, 0, 0, 0);
        x.run(2);
        due(x.hearing(0, 1), BAD);
        due(x.hearing(0, 3000), BAD);
        due(x.hearing(3, 5), BAD);
        due(x.hearing(-1, 5), BAD);
        due(x.hearing(0, 2999), 0);
        due(x.hearing(0, 5), NO);
        due(x.hearing(1, 2), 1);
        x.gone(2);
        due(x.hearing(2, 5), NO);
        due(x.hearing(2, 1), BAD);
        due(x.count(11), 2);
        due(x.count(12), 2);
        HearingBoards y = out();
        due(y.hearing(0, 5), NO);
        HearingBoards z = ready();
        law(z, "notice 0");
        for (int i = 0; i < 30; i++) hear(z, 0, 1);
        due(z.count(11), 30);
        due(z.hearing(0, 99), FULL);
        due(z.hearing(0, 0), BAD);
        due(z.told(0, 6), 30);
    }

    private static void heard() {
        start(30);
        HearingBoards x = ready();
        x.person(1, 0, 0, 0);
        x.hearing(1, 2);
        int[] want = {1, 2, 0, 0, 0};
        for (int i = 0; i < 5; i++) due(x.heard(0, i), want[i]);
        law(x, "again w*10", 1, 0);
        x.run(3);
        int[] put = {1, 22, 0, 1, 2};
        for (int i = 0; i < 5; i++) due(x.heard(0, i), put[i]);
        x.paper(1, 1, 99);
        x.run(20);
        int[] twice = {1, 52, 0, 2, 3};
        for (int i = 0; i < 5; i++) due(x.heard(0, i), twice[i]);
        x.paper(3, 1, 52);
        x.run(30);
        int[] done = {1, 52, 1, 2, 3};
        for (int i = 0; i < 5; i++) due(x.heard(0, i), done[i]);
        due(x.heard(1, 0), BAD);
        due(x.heard(-1, 0), BAD);
        due(x.heard(0, 5), BAD);
        due(x.heard(0, -1), BAD);
        HearingBoards y = out();
        due(y.heard(0, 2), 2);
        y.unwind(0);
        due(y.heard(0, 2), 3);
    }

    private static void cause() {
        start(31);
        HearingBoards x = new HearingBoards();
        x.person(0, 0, 0, 1);
        x.person(0, 0, 0, 0);
        x.sentence(0, 2, 0);
        due(x.cause(0), 1);
        due(x.cause(1), 2);
        due(x.cause(2), BAD);
        due(x.cause(-1), BAD);
        x.run(1);
        due(x.cause(0), 2);
        x.paper(2, 0, 1);
        due(x.cause(0), 3);
        due(x.cause(1), 2);
        x.run(1);
        due(x.cause(0), 2);
        x.paper(1, 0, 9);
        x.paper(3, 0, 9);
        x.run(1);
        x.paper(3, 0, 10);
        x.paper(3, 0, 9);
        x.run(6);
        due(x.count(16), 9);
        due(x.cause(0), 0);
        law(x, "notice v*8");
        due(x.cause(0), 3);
        x.be(0, 4, 0);
        due(x.cause(0), 0);
        x.be(0, 4, 1);
        law(x, "notice 7", 0, 9);
        due(x.cause(0), 0);
        x.run(1);
        due(x.cause(0), 0);
        x.run(1);
        due(x.cause(0), 2);
        x.paper(4, 0, 9);
        x.paper(0, 0, 0);
        due(x.cause(0), 2);
        x.paper(2, 0, 5);
        due(x.cause(0), 3);
        x.paper(3, 0, 11);
        due(x.cause(0), 3);
        law(x, "notice 0");
        due(x.cause(0), 3);
        law(x, "notice 0", 8, 10);
        due(x.cause(0), 0);
        x.flee(0);
        due(x.cause(0), 0);
        x.gone(0);
        due(x.cause(0), NO);
        HearingBoards y = out();
        due(y.cause(0), NO);
        HearingBoards z = new HearingBoards();
        z.person(0, 0, 0, 0);
        z.paper(3, 0, 0);
        z.paper(1, 0, 1);
        due(z.cause(0), 0);
    }

    private static void puts() {
        start(32);
        HearingBoards x = ready();
        law(x, "first t");
        law(x, "again 1");
        x.sentence(0, 2, 0);
        x.hearing(0, 0);
        x.run(5);
        due(x.puts(1), 2);
        due(x.puts(2), 0);
        due(x.puts(3), 3);
        due(x.puts(4), 0);
        x.paper(3, 0, 5);
        x.conflict(2, 0, 1);
        x.run(1);
        due(x.puts(4), 1);
        due(x.heard(0, 4), 4);
        due(x.heard(0, 3), 6);
        due(x.puts(0), BAD);
        due(x.puts(5), BAD);
        due(x.told(0, 6), 0);
    }

    private static void recall() {
        start(33);
        HearingBoards x = out();
        due(x.recall(1), BAD);
        due(x.recall(-1), BAD);
        x.run(3);
        due(x.recall(0), 1);
        due(x.recall(0), NO);
        due(x.told(0, 3), 0);
        due(x.count(5), 2);
        due(x.served(0, 4), 0);
        due(x.served(0, 9), 5);
        due(x.heard(0, 2), 2);
        due(x.unwind(0), NO);
        due(x.flee(0), 1);
        due(x.caught(0), 1);
        x.gone(0);
        due(x.recall(0), NO);
        HearingBoards y = ready();
        law(y, "let 1");
        useSpans(y, 0, 29);
        hear(y, 0, 1);
        due(y.told(0, 3), 1);
        due(y.recall(0), FULL);
        due(y.told(0, 3), 1);
    }

    private static void unwind() {
        start(34);
        HearingBoards x = out();
        x.run(3);
        due(x.unwind(1), BAD);
        due(x.unwind(-1), BAD);
        due(x.unwind(0), 0);
        due(x.unwind(0), NO);
        due(x.told(0, 3), 0);
        due(x.heard(0, 2), 3);
        due(x.count(5), 2);
        due(x.served(0, 6), 2);
        hear(x, 0, 1);
        due(x.told(0, 3), 1);
        due(x.unwind(0), NO);
        law(x, "unwind d<4");
        x.run(2);
        due(x.unwind(1), 1);
        due(x.count(5), 2);
        due(x.served(0, 7), 3);
        due(x.flee(0), 1);
        x.caught(0);
        hear(x, 0, 1);
        x.recall(0);
        hear(x, 0, 1);
        due(x.heard(2, 2), 2);
        due(x.heard(3, 2), 2);
        due(x.unwind(2), NO);
        x.run(3);
        due(x.unwind(3), 0);
        due(x.unwind(2), NO);
        x.hearing(0, 50);
        due(x.unwind(4), NO);
    }

    private static void unwindWithoutSpans() {
        start(34);
        HearingBoards x = ready();
        law(x, "let 1");
        useSpans(x, 0, 29);
        hear(x, 0, 1);
        due(x.unwind(0), FULL);
        due(x.heard(0, 2), 2);
        due(x.told(0, 3), 1);
        law(x, "unwind 0-1");
        due(x.unwind(0), 1);
        due(x.count(5), 30);
        due(x.served(0, 9), 9);
        x.person(0, 0, 0, 0);
        due(x.count(0), 1);
    }

    private static void run() {
        start(35);
        HearingBoards x = new HearingBoards();
        due(x.run(1), 1);
        due(x.run(60), 61);
        due(x.run(0), BAD);
        due(x.run(-1), BAD);
        due(x.run(61), BAD);
        times(48, () -> x.run(60));
        due(x.count(16), 2941);
        due(x.run(59), FULL);
        due(x.count(16), 2941);
        due(x.run(58), 2999);
        due(x.run(1), FULL);
        due(x.run(61), BAD);
    }

    /** Prison by prison: the first one's list takes its turns before the second one's board is looked for. */
    private static void dayInOrder() {
        start(35);
        HearingBoards x = new HearingBoards();
        x.person(0, 1, 0, 0);
        x.person(0, 0, 0, 0);
        x.person(0, 1, 0, 0);
        x.person(0, 2, 0, 0);
        times(3, () -> x.member(0, 63));
        x.member(0, 2);
        for (int i = 0; i < 4; i++) {
            x.paper(1, i, 9);
            x.paper(3, i, 0);
            x.hearing(i, 0);
        }
        x.conflict(0, 3, 1);
        x.run(1);
        int[] turns = {2, 2, 1, 1};
        for (int i = 0; i < 4; i++) due(x.is(i, 3), turns[i]);
        int[] states = {1, 1, 1, 0};
        for (int i = 0; i < 4; i++) due(x.heard(i, 2), states[i]);
        due(x.heard(3, 4), 4);
        due(x.heard(3, 1), 28);
    }

    /** One conflict with one case of a list puts off all who were on it, and nobody else. */
    private static void noBoardForOneIsForNone() {
        start(35);
        HearingBoards x = ready();
        x.person(0, 0, 0, 0);
        x.person(0, 0, 0, 0);
        x.person(0, 3, 0, 0);
        for (int i = 1; i < 4; i++) x.paper(1, i, 9);
        for (int i = 0; i < 4; i++) {
            if (i != 2) x.paper(3, i, 0);
            x.hearing(i, 0);
        }
        x.conflict(1, 1, 1);
        x.run(1);
        int[] causes = {4, 4, 3, 0};
        for (int i = 0; i < 4; i++) due(x.heard(i, 4), causes[i]);
        due(x.heard(3, 2), 1);
        due(x.is(0, 3), 1);
        due(x.puts(4), 2);
        due(x.puts(3), 1);
    }

    private static void letByTexts() {
        start(35);
        HearingBoards x = ready();
        x.table(1, 0, 1);
        x.table(1, 1, 3);
        law(x, "let r=33&h=1&c=5&s=1");
        x.credit(0, 5);
        hear(x, 0, 1);
        due(x.heard(0, 2), 1);
        due(x.told(0, 3), 0);
        hear(x, 0, 1);
        due(x.heard(1, 2), 2);
        due(x.told(0, 3), 1);
        due(x.served(0, 99), 1);
        due(x.count(2), 1);
        HearingBoards y = ready();
        law(y, "let 0-1");
        hear(y, 0, 1);
        due(y.heard(0, 2), 2);
    }

    private static void voidAndMoved() {
        start(35);
        HearingBoards x = ready();
        x.paper(3, 0, 1);
        x.hearing(0, 1);
        x.gone(0);
        x.run(1);
        due(x.heard(0, 2), 0);
        due(x.told(0, 9), 0);
        x.run(1);
        due(x.heard(0, 2), 3);
        due(x.heard(0, 3), 0);
        due(x.told(0, 6), 0);
        due(x.told(0, 9), NONE);
        due(x.count(12), 0);
        HearingBoards y = new HearingBoards();
        y.person(0, 0, 0, 0);
        times(3, () -> y.member(0, 2));
        y.paper(1, 0, 9);
        y.paper(3, 0, 0);
        y.hearing(0, 0);
        y.be(0, 1, 1);
        y.run(1);
        due(y.heard(0, 2), 1);
    }

    // ---- 36 to 41: like cases, doubles, tables

    private static void table() {
        start(36);
        HearingBoards x = new HearingBoards();
        due(x.table(0, 0, 9999), 0);
        due(x.table(0, 0, 5), 9999);
        due(x.table(7, 2, 4), 0);
        due(x.table(7, 2, 0), 4);
        due(x.table(0, 1, 1), 0);
        due(x.table(1, 0, 1), 0);
        due(x.table(0, 0, 0), 5);
        due(x.table(8, 0, 0), BAD);
        due(x.table(-1, 0, 0), BAD);
        due(x.table(0, 3, 0), BAD);
        due(x.table(0, -1, 0), BAD);
        due(x.table(0, 0, 10000), BAD);
        due(x.table(0, 0, -1), BAD);
        due(x.table(0, 0, 1), 0);
    }

    private static void like() {
        start(37);
        HearingBoards x = ready();
        x.person(0, 1, 3, 0);
        x.person(0, 1, 7, 0);
        x.person(1, 1, 1, 0);
        x.person(0, 1, 0, 0);
        for (int i = 1; i < 5; i++) x.paper(1, i, 999);
        due(x.like(0, 0), 0);
        due(x.like(0, 1), 0);
        due(x.like(0, 2), NONE);
        for (int i = 0; i < 5; i++) hear(x, i, 1);
        due(x.like(0, 0), 2);
        due(x.like(0, 1), 0);
        due(x.like(0, 2), 0);
        due(x.like(1, 0), 2);
        due(x.like(2, 0), 1);
        due(x.like(3, 0), 0);
        due(x.like(4, 0), 1);
        law(x, "let 1");
        hear(x, 1, 1);
        due(x.like(0, 0), 3);
        due(x.like(0, 1), 1);
        due(x.like(0, 2), 33);
        x.unwind(5);
        due(x.like(0, 0), 2);
        due(x.like(0, 1), 0);
        hear(x, 1, 1);
        due(x.like(0, 2), 33);
        x.gone(1);
        due(x.like(0, 2), 33);
        x.be(1, 2, 7);
        due(x.like(0, 2), 0);
        due(x.like(5, 0), BAD);
        due(x.like(-1, 0), BAD);
        due(x.like(0, 3), BAD);
        due(x.like(0, -1), BAD);
    }

    private static void doubles() {
        start(38);
        HearingBoards x = new HearingBoards();
        due(x.twice(2, 0), BAD);
        due(x.twice(0, 2), BAD);
        due(x.twice(-1, 0), BAD);
        due(x.twice(0, -1), BAD);
        due(x.spread(), NONE);
        due(x.twice(0, 0), 1);
        start(39);
        due(x.spread(), 0);
        due(x.twice(1, 0), 2);
        due(x.spread(), 50);
        due(x.twice(1, 1), 3);
        due(x.spread(), 33);
        start(38);
        times(17, () -> x.twice(0, 1));
        due(x.count(13), 20);
        due(x.twice(0, 1), FULL);
        due(x.twice(0, 2), BAD);
        due(x.spread(), 90);
    }

    private static void draws() {
        start(40);
        HearingBoards x = new HearingBoards();
        due(x.seed(65535), 0);
        due(x.seed(65536), BAD);
        due(x.seed(-1), BAD);
        due(x.seed(1), 65535);
        due(x.count(17), 1);
        start(41);
        times(5, () -> x.member(0, 0));
        due(x.draw(), NO);
        due(x.count(17), 1);
        times(4, () -> x.member(0, 0));
        // 39022, 61087, 20196, 45005, 3882, 21259 by 9, 8, 7, 6, 5, 4: places 7, 7, 1, 5, 2, 3 of those left
        due(x.draw(), (1 << 7 | 1 << 8 | 1 << 1) + 512 * (1 << 6 | 1 << 3 | 1 << 5));
        due(x.count(17), 21259);
    }

    // ---- 42 to 45: sheets

    private static void sheets() {
        start(42);
        HearingBoards x = new HearingBoards();
        due(x.sheet(0, 0, 24), 24);
        due(x.sheet(1, 1, 0), 0);
        due(x.sheet(2, 2, 3), 3);
        due(x.sheet(3, 0, 25), BAD);
        due(x.sheet(4, 0, 1), BAD);
        due(x.sheet(-1, 0, 1), BAD);
        due(x.sheet(0, 3, 1), BAD);
        due(x.sheet(0, -2, 1), BAD);
        due(x.sheet(0, 3, -1), BAD);
        due(x.sheet(0, 1, -1), SIZE);
        due(x.sheet(3, -1, 25), 0);
        due(x.sheet(3, -1, -25), 0);
        due(x.add(0, 23, 1), 1);
        due(x.sheet(0, 0, 2), 2);
        due(x.add(0, 23, 1), INDEX);
        due(x.sheet(0, 0, 24), 24);
        due(x.add(0, 23, 0), 0);
        start(43);
        due(x.add(3, 0, 1), NOTHING);
        due(x.add(4, 0, 1), BAD);
        due(x.add(-1, 0, 1), BAD);
        due(x.add(1, 0, 1), INDEX);
        due(x.add(0, 24, 1), INDEX);
        due(x.add(0, -1, 1), INDEX);
        due(x.add(0, 0, 127), 127);
        due(x.add(0, 0, 1), -128);
        due(x.add(0, 0, 256), -128);
        x.sheet(1, 1, 2);
        due(x.add(1, 1, 32767), 32767);
        due(x.add(1, 1, 1), -32768);
        due(x.add(1, 1, Integer.MIN_VALUE), -32768);
        due(x.add(2, 0, Integer.MIN_VALUE), Integer.MIN_VALUE);
        due(x.add(2, 0, Integer.MIN_VALUE), 0);
        due(x.add(2, 0, -1), -1);
        due(x.same(0, -1), 0);
    }

    private static void copy() {
        start(44);
        HearingBoards x = new HearingBoards();
        x.sheet(0, 0, 5);
        x.sheet(1, 0, 3);
        x.sheet(2, 1, 5);
        for (int i = 0; i < 5; i++) x.add(0, i, i + 1);
        due(x.copy(0, 0, 0, 1, 4), 4);
        int[] up = {1, 1, 2, 3, 4};
        for (int i = 0; i < 5; i++) due(x.add(0, i, 0), up[i]);
        due(x.copy(0, 2, 0, 0, 3), 3);
        int[] down = {2, 3, 4, 3, 4};
        for (int i = 0; i < 5; i++) due(x.add(0, i, 0), down[i]);
        due(x.copy(0, 3, 1, 1, 2), 2);
        int[] there = {0, 3, 4};
        for (int i = 0; i < 3; i++) due(x.add(1, i, 0), there[i]);
        due(x.copy(0, 5, 1, 3, 0), 0);
        due(x.copy(0, 6, 1, 3, 0), INDEX);
        due(x.copy(0, 0, 1, 4, 0), INDEX);
        due(x.copy(0, 4, 1, 0, 2), INDEX);
        due(x.copy(0, 0, 1, 2, 2), INDEX);
        due(x.copy(0, -1, 1, 0, 1), INDEX);
        due(x.copy(0, 0, 1, -1, 1), INDEX);
        due(x.copy(0, 0, 1, 0, -1), INDEX);
        due(x.copy(0, 1, 1, 0, Integer.MAX_VALUE), INDEX);
        due(x.copy(0, Integer.MAX_VALUE, 1, 0, Integer.MAX_VALUE), INDEX);
        due(x.copy(0, 0, 2, 0, 1), KIND);
        due(x.copy(0, 9, 2, 0, 9), KIND);
        due(x.copy(0, 9, 3, 0, 9), NOTHING);
        due(x.copy(3, 0, 0, 0, 0), NOTHING);
        due(x.copy(3, 0, 3, 0, 0), NOTHING);
        due(x.copy(4, 0, 3, 0, 0), BAD);
        due(x.copy(3, 0, -1, 0, 0), BAD);
        x.sheet(3, 2, 2);
        x.sheet(2, 2, 2);
        x.add(3, 0, Integer.MAX_VALUE);
        x.add(3, 0, Integer.MAX_VALUE);
        x.add(3, 0, 2);
        due(x.copy(3, 0, 2, 1, 1), 1);
        // a long whose lowest 32 bits are 0 is not 0
        due(x.same(1, 0), 1);
        due(x.add(2, 1, 0), 0);
    }

    private static void same() {
        start(45);
        HearingBoards x = new HearingBoards();
        due(x.same(0, 0), 0);
        due(x.same(-1, 0), BAD);
        x.sheet(0, 0, 1);
        x.sheet(1, 1, 2);
        x.sheet(2, 2, 3);
        x.sheet(3, 2, 0);
        due(x.same(0, 0), 3);
        due(x.same(1, 0), 2);
        due(x.same(2, 0), 1);
        due(x.same(3, 0), 0);
        due(x.same(Integer.MAX_VALUE, 0), 0);
        due(x.same(0, 256), 1);
        due(x.same(0, 65536), 2);
        x.add(0, 0, 200);
        due(x.same(0, 200), 1);
        due(x.same(0, -56), 1);
        x.add(2, 0, 200);
        due(x.same(0, 200), 2);
        x.add(1, 0, 40000);
        due(x.same(0, 40000), 1);
        due(x.same(0, 40000 - 65536), 1);
    }

    // ---- 46 to 50: rows, images

    private static void tell() {
        start(46);
        HearingBoards x = new HearingBoards();
        for (int i = 1; i <= 60; i++) due(x.tell(-i), i);
        due(x.tell(1), FULL);
        due(x.count(14), 60);
        x.check(0);
        due(x.count(14), 0);
        due(x.tell(1), 1);
    }

    private static void tellAll(HearingBoards x, int... row) {
        for (int v : row) x.tell(v);
    }

    private static void check() {
        start(47);
        HearingBoards x = ready();
        law(x, "let 1");
        x.person(0, 0, 0, 0);
        x.paper(3, 0, 1);
        x.hearing(0, 1);
        x.tell(1);
        due(x.check(1), NO);
        due(x.count(14), 0);
        x.tell(1);
        due(x.check(0), BAD);
        due(x.count(14), 0);
        due(x.check(31), BAD);
        x.keep();
        tellAll(x, 2, 0, 3, 1, 4, 1);
        due(x.check(3), 0);
        due(x.count(16), 0);
        due(x.told(0, 3), 0);
        due(x.is(0, 3), 0);
        due(x.check(1), 1);
        tellAll(x, 3, 0);
        due(x.check(1), 1);
        tellAll(x, 2, 0);
        due(x.check(2), 3);
        tellAll(x, 2, 0, 3, 0);
        due(x.check(2), 4);
        tellAll(x, 2, 0, 3, 1, 4);
        due(x.check(2), 5);
        tellAll(x, 2, 0, 3);
        due(x.check(2), 4);
        x.run(5);
        x.gone(1);
        tellAll(x, 2, 0, 3, 1, 4, 1);
        due(x.check(3), 0);
        x.keep();
        tellAll(x, 6, 1);
        due(x.check(1), 0);
    }

    private static void checkBeyondTheLastDay() {
        start(47);
        HearingBoards x = new HearingBoards();
        times(49, () -> x.run(60));
        x.run(59);
        x.person(0, 0, 0, 0);
        times(3, () -> x.member(0, 63));
        law(x, "let 1");
        law(x, "again 3");
        x.paper(1, 0, 99);
        x.paper(3, 0, 3002);
        x.hearing(0, 2999);
        due(x.keep(), 2999);
        for (int i = 1; i <= 30; i++) tellAll(x, Math.min(i, 3), i < 4 ? 0 : 1);
        due(x.check(30), 0);
        due(x.count(16), 2999);
        due(x.heard(0, 3), 0);
    }

    private static void images() {
        start(48);
        HearingBoards x = out();
        x.run(2);
        due(x.keep(), 3);
        start(49);
        x.recall(0);
        x.sentence(0, 9, 1);
        x.gap(0, 0, 2);
        x.credit(0, -5);
        x.twice(0, 1);
        x.seed(77);
        x.table(1, 1, 5);
        x.table(1, 0, 5);
        x.be(0, 2, 9);
        x.conflict(0, 0, 1);
        x.member(3, 3);
        x.paper(0, 0, 0);
        law(x, "let 9");
        x.hearing(0, 3);
        x.run(9);
        x.person(1, 1, 1, 1);
        x.sheet(0, 0, 3);
        x.add(0, 0, 5);
        x.tell(4);
        x.feed(1, 2, 3);
        int[] later = new int[18];
        for (int i = 0; i < 18; i++) later[i] = x.count(i);
        due(later[16], 12);
        due(x.puts(1), 1);
        for (int round = 0; round < 2; round++) {
            due(x.restore(), 3);
            int[] want = {1, 0, 1, 0, 0, 1, 0, 0, 1, 2, 3, 1, 0, 0, 1, 12, 3, 0};
            for (int i = 0; i < 18; i++) due(x.count(i), want[i]);
            due(x.told(0, 2), 1);
            due(x.told(0, 3), 1);
            due(x.told(0, 5), 0);
            due(x.told(0, 6), 1);
            due(x.told(0, 7), 0);
            due(x.is(0, 2), 0);
            due(x.is(0, 3), 1);
            due(x.puts(1), 0);
            due(x.spread(), NONE);
            due(x.why(0, 2), 0);
            due(x.rules(0, 2, 0, 0, 0, 0), 1);
            due(x.served(0, 9), 0);
            due(x.credits(0, 9), 0);
            due(x.add(0, 0, 0), 5);
            x.recall(0);
            x.twice(0, 0);
            x.credit(0, 7);
            due(x.credits(0, 3), 7);
            x.hearing(0, 4);
            due(x.heard(1, 3), 0);
            due(x.heard(1, 4), 0);
            x.run(2);
        }
        x.keep();
        due(x.keep(), 5);
        x.run(1);
        due(x.restore(), 5);
    }

    private static void count() {
        start(50);
        HearingBoards x = out();
        times(4, () -> x.person(0, 0, 0, 0));
        x.gone(1);
        x.gone(2);
        x.sentence(3, 5, 0);
        x.gap(3, 1, 2);
        x.gap(3, 1, 2);
        x.credit(3, 4);
        x.hearing(3, 44);
        x.hearing(4, 44);
        x.twice(0, 0);
        x.tell(1);
        x.tell(1);
        x.feed(0, 0, 0);
        x.seed(999);
        int[] want = {5, 2, 1, 2, 1, 5, 2, 1, 1, 2, 3, 3, 2, 1, 2, 12, 1, 999};
        for (int i = 0; i < 18; i++) due(x.count(i), want[i]);
        due(x.count(-1), BAD);
        due(x.count(18), BAD);
    }

    public static void main(String[] args) {
        newObject();
        person();
        told();
        tableRows();
        be();
        sentence();
        gap();
        fleeAndCaught();
        letWhileFled();
        gone();
        served();
        credit();
        due();
        date();
        tape();
        text();
        faults();
        goodTexts();
        of();
        why();
        rules();
        values();
        paper();
        member();
        board();
        hearing();
        heard();
        cause();
        puts();
        recall();
        unwind();
        unwindWithoutSpans();
        run();
        dayInOrder();
        noBoardForOneIsForNone();
        letByTexts();
        voidAndMoved();
        table();
        like();
        doubles();
        draws();
        sheets();
        copy();
        same();
        tell();
        check();
        checkBeyondTheLastDay();
        images();
        count();
        System.out.println(asked + " answers, " + wrong + " not as due");
        if (wrong != 0) System.exit(1);
    }
}
