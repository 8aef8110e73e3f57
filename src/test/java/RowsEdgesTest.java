/** Boundary cases of promises 36 to 50: like cases, doubles, tables, sheets, rows, images. */
public final class RowsEdgesTest extends Edges {
    private static final int[] NO_SHEET = {LEAST, -1, 4, MOST};

    // ---- tables, like cases, doubles

    private static void table() {
        promise(36, "AGAIN (what 0), OF (1), WRONG (2) of a row of TABLE becomes v (0 .. 9999): what it was (0 at first). BAD.");
        HearingBoards x = new HearingBoards();
        for (int i = 0; i < 24; i++) due(x.table(i / 3, i % 3, 9999 - i), 0);
        for (int i = 0; i < 24; i++) due(x.table(i / 3, i % 3, 0), 9999 - i);
        due(x.table(0, 0, 9999), 0);
        due(x.table(0, 0, 9999), 9999);
        for (int row : new int[] {LEAST, -1, 8, MOST}) refused(BAD, Edges::rich, y -> y.table(row, 0, 1));
        for (int what : new int[] {LEAST, -1, 3, MOST}) refused(BAD, Edges::rich, y -> y.table(0, what, 1));
        for (int v : new int[] {LEAST, -1, 10000, MOST}) {
            refused(BAD, Edges::rich, y -> y.table(0, 0, v));
            refused(BAD, Edges::rich, y -> y.table(7, 2, v));
        }
    }

    private static void like() {
        promise(37, "LIKE CASES: what 0 HEARD or LET, 1 LET, 2 THE SHARE. BAD; NONE (2).");
        HearingBoards x = ready(2);
        int[] none = {0, 0, NONE};
        for (int what = 0; what < 3; what++) due(x.like(0, what), none[what]);
        hear(x, 0);
        for (int what = 0; what < 3; what++) due(x.like(0, what), none[what]);
        int[] heard = {1, 0, 0};
        for (int what = 0; what < 3; what++) due(x.like(1, what), heard[what]);
        law(x, "let 1");
        hear(x, 0);
        int[] let = {2, 1, 50};
        for (int what = 0; what < 3; what++) due(x.like(1, what), let[what]);
        for (int marks : new int[] {1, 2, 128}) {
            x.be(1, 2, marks);
            due(x.like(1, 0), 2);
        }
        for (int marks : new int[] {3, 129, 255}) {
            x.be(1, 2, marks);
            due(x.like(1, 0), 0);
            due(x.like(1, 2), NONE);
        }
        for (int person : new int[] {LEAST, -1, 4, 12, MOST}) refused(BAD, Edges::rich, y -> y.like(person, 0));
        for (int what : new int[] {LEAST, -1, 3, MOST}) refused(BAD, Edges::rich, y -> y.like(R_IN, what));
        refused(NONE, Edges::rich, y -> y.like(R_FLED, 2));
        due(rich().like(R_IN, 2), 100);
    }

    private static HearingBoards fullOfDoubles() {
        return until(20, DOUBLES, rich(), x -> x.twice(0, 0));
    }

    private static void doubles() {
        promise(38, "A DOUBLE: how many there are. BAD: said 0, 1 each; FULL.");
        HearingBoards x = new HearingBoards();
        due(x.twice(0, 0), 1);
        due(x.twice(0, 1), 2);
        due(x.twice(1, 0), 3);
        due(x.twice(1, 1), 4);
        due(x.spread(), 50);
        for (int said : new int[] {LEAST, -1, 2, MOST}) {
            refused(BAD, Edges::rich, y -> y.twice(said, 0));
            refused(BAD, Edges::rich, y -> y.twice(1, said));
            refused(BAD, Edges::rich, y -> y.twice(said, said));
            refused(BAD, RowsEdgesTest::fullOfDoubles, y -> y.twice(said, 0));
            refused(BAD, RowsEdgesTest::fullOfDoubles, y -> y.twice(1, said));
        }
        refused(FULL, RowsEdgesTest::fullOfDoubles, y -> y.twice(1, 0));
        refused(FULL, RowsEdgesTest::fullOfDoubles, y -> y.twice(0, 0));
        due(until(19, DOUBLES, rich(), y -> y.twice(0, 0)).twice(0, 0), 20);

        promise(39, "SPREAD. NONE.");
        HearingBoards z = new HearingBoards();
        refused(NONE, () -> new HearingBoards(), y -> y.spread());
        z.twice(1, 0);
        due(z.spread(), 100);
        for (int i = 0; i < 18; i++) z.twice(1, 1);
        due(z.spread(), 5);
        z.twice(0, 0);
        due(z.spread(), 5);
        HearingBoards all = until(20, DOUBLES, new HearingBoards(), y -> y.twice(0, 1));
        due(all.spread(), 100);
    }

    private static HearingBoards sixMembers() {
        HearingBoards x = rich();
        x.restore();
        x.keep();
        return x;
    }

    private static HearingBoards fiveMembers() {
        HearingBoards x = until(5, MEMBERS, people(1), y -> y.member(0, 63));
        x.seed(77);
        return x;
    }

    private static void draws() {
        promise(40, "SEED becomes v: what it was. BAD.");
        HearingBoards x = new HearingBoards();
        due(x.seed(65535), 0);
        due(x.count(SEED), 65535);
        due(x.seed(0), 65535);
        due(x.count(SEED), 0);
        for (int v : new int[] {LEAST, -1, 65536, MOST}) refused(BAD, Edges::rich, y -> y.seed(v));

        promise(41, "Two BOARDS are drawn: MEMBERS of the first as bits, and 512 times those of the second. NO: there are fewer than six MEMBERS.");
        refused(NO, () -> new HearingBoards(), y -> y.draw());
        refused(NO, RowsEdgesTest::fiveMembers, y -> y.draw());
        HearingBoards six = fiveMembers();
        six.member(0, 63);
        for (int i = 0; i < 20; i++) {
            int drawn = six.draw();
            due(drawn % 512 | drawn / 512, 63);
            due(drawn % 512 & drawn / 512, 0);
            due(Integer.bitCount(drawn % 512), 3);
        }
        HearingBoards nine = until(9, MEMBERS, new HearingBoards(), y -> y.member(127, 0));
        int seen = 0;
        for (int i = 0; i < 40; i++) {
            int drawn = nine.draw();
            seen |= drawn;
            due(Integer.bitCount(drawn), 6);
            due(drawn % 512 & drawn / 512, 0);
        }
        due(seen, 512 * 512 - 1);
        for (int i = 0; i < 9; i++) due(nine.is(i, 3), 0);
        HearingBoards again = sixMembers();
        int drawn = again.draw();
        int seed = again.count(SEED);
        again.restore();
        due(again.draw(), drawn);
        due(again.count(SEED), seed);
    }

    // ---- sheets

    private static void sheet() {
        promise(42, "A SHEET becomes a row of n places of a sort, all 0 (sort -1: MISSING, n any): n (0).");
        for (int sheet = 0; sheet < 4; sheet++) {
            for (int sort = 0; sort < 3; sort++) {
                for (int n : new int[] {0, 1, 24}) {
                    HearingBoards x = rich();
                    due(x.sheet(sheet, sort, n), n);
                    for (int place = 0; place < n; place++) due(x.add(sheet, place, 0), 0);
                    due(x.add(sheet, n, 0), INDEX);
                }
            }
            for (int n : new int[] {LEAST, -1, 0, 1, 24, 25, MOST}) {
                HearingBoards x = rich();
                due(x.sheet(sheet, -1, n), 0);
                due(x.add(sheet, 0, 0), NOTHING);
            }
        }
        HearingBoards again = rich();
        due(again.sheet(2, 2, 3), 3);
        for (int place = 0; place < 3; place++) due(again.add(2, place, 0), 0);
        due(again.add(1, 0, 0), 8);

        promise(42, "BAD: sheet, sort, n above 24; SIZE.");
        for (int sheet : NO_SHEET) {
            for (int n : new int[] {-1, 0, 25}) refused(BAD, Edges::rich, x -> x.sheet(sheet, 0, n));
            refused(BAD, Edges::rich, x -> x.sheet(sheet, -1, 0));
        }
        for (int sort : new int[] {LEAST, -2, 3, MOST}) {
            for (int n : new int[] {-1, 0, 25}) refused(BAD, Edges::rich, x -> x.sheet(0, sort, n));
        }
        for (int sort = 0; sort < 3; sort++) {
            int of = sort;
            for (int n : new int[] {25, MOST}) refused(BAD, Edges::rich, x -> x.sheet(1, of, n));
            for (int n : new int[] {-1, LEAST}) refused(SIZE, Edges::rich, x -> x.sheet(1, of, n));
        }
    }

    private static void add() {
        promise(43, "A place of a SHEET becomes as much more as v (in its width): what it is then, its lowest 32 bits as an int.");
        HearingBoards x = new HearingBoards();
        for (int i = 0; i < 3; i++) x.sheet(i, i, 24);
        int[][] rows = {
            {0, 127, 127}, {0, 1, -128}, {0, -1, 127}, {0, 256, 127}, {0, -127, 0}, {0, -128, -128}, {0, -1, 127}, {0, MOST, 126}, {0, LEAST, 126},
            {1, 32767, 32767}, {1, 1, -32768}, {1, -1, 32767}, {1, 65536, 32767}, {1, MOST, 32766}, {1, LEAST, 32766},
            {2, MOST, MOST}, {2, 1, LEAST}, {2, MOST, -1}, {2, 1, 0}, {2, LEAST, LEAST}, {2, LEAST, 0}, {2, LEAST, LEAST}, {2, LEAST, 0},
        };
        for (int[] row : rows) due(x.add(row[0], 23, row[1]), row[2]);
        due(x.same(23, 0), 0);
        due(x.add(2, 0, -1), -1);
        due(x.add(2, 0, 1), 0);
        due(x.same(0, 0), 3);

        promise(43, "BAD; NOTHING; INDEX.");
        for (int sheet : NO_SHEET) {
            refused(BAD, Edges::rich, y -> y.add(sheet, 0, 1));
            refused(BAD, Edges::rich, y -> y.add(sheet, 3, 1));
        }
        for (int place : new int[] {LEAST, -1, 0, 3, MOST}) refused(NOTHING, Edges::rich, y -> y.add(3, place, 1));
        for (int place : new int[] {LEAST, -1, 3, 24, MOST}) {
            for (int sheet = 0; sheet < 3; sheet++) {
                int of = sheet;
                refused(INDEX, Edges::rich, y -> y.add(of, place, 1));
            }
        }
        due(rich().add(0, 0, 0), 1);
        due(rich().add(0, 2, 0), 3);
    }

    /** Sheets 0 and 1 of one sort, with 5 and 3 places (from 1 and from 11 on), 2 of another, 3 MISSING. */
    private static HearingBoards twoOfASort(int sort) {
        HearingBoards x = rich();
        x.sheet(0, sort, 5);
        x.sheet(1, sort, 3);
        x.sheet(2, (sort + 1) % 3, 5);
        for (int i = 0; i < 5; i++) x.add(0, i, 1 + i);
        for (int i = 0; i < 3; i++) x.add(1, i, 11 + i);
        return x;
    }

    private static void holds(HearingBoards x, int sheet, int... row) {
        for (int i = 0; i < row.length; i++) due(x.add(sheet, i, 0), row[i]);
        due(x.add(sheet, row.length, 0), INDEX);
    }

    private static void copy() {
        promise(44, "So many places of a SHEET come to another one (or the same), as they were: many.");
        for (int sort = 0; sort < 3; sort++) {
            HearingBoards x = twoOfASort(sort);
            due(x.copy(0, 2, 1, 0, 3), 3);
            holds(x, 1, 3, 4, 5);
            holds(x, 0, 1, 2, 3, 4, 5);
            HearingBoards one = twoOfASort(sort);
            due(one.copy(1, 2, 0, 4, 1), 1);
            holds(one, 0, 1, 2, 3, 4, 13);
            HearingBoards up = twoOfASort(sort);
            due(up.copy(0, 0, 0, 1, 4), 4);
            holds(up, 0, 1, 1, 2, 3, 4);
            HearingBoards down = twoOfASort(sort);
            due(down.copy(0, 1, 0, 0, 4), 4);
            holds(down, 0, 2, 3, 4, 5, 5);
            HearingBoards all = twoOfASort(sort);
            due(all.copy(0, 0, 0, 0, 5), 5);
            holds(all, 0, 1, 2, 3, 4, 5);
            int of = sort;
            refused(0, () -> twoOfASort(of), y -> y.copy(0, 0, 1, 0, 0));
            refused(0, () -> twoOfASort(of), y -> y.copy(0, 5, 1, 3, 0));
        }
        HearingBoards empty = new HearingBoards();
        empty.sheet(0, 0, 0);
        empty.sheet(1, 0, 0);
        due(empty.copy(0, 0, 1, 0, 0), 0);
        due(empty.copy(0, 0, 1, 0, 1), INDEX);
        HearingBoards longs = new HearingBoards();
        longs.sheet(0, 2, 24);
        longs.sheet(3, 2, 24);
        times(2, () -> longs.add(0, 23, LEAST));
        due(longs.copy(0, 0, 3, 0, 24), 24);
        due(longs.add(3, 23, 0), 0);
        due(longs.same(23, 0), 0);
        due(longs.copy(0, 0, 3, 0, 25), INDEX);
    }

    private static void copyRefused() {
        promise(44, "BAD; NOTHING; KIND: they are not of one sort; INDEX.");
        for (int sheet : NO_SHEET) {
            for (int other = 0; other < 4; other++) {
                int with = other;
                refused(BAD, () -> twoOfASort(0), x -> x.copy(sheet, 9, with, 9, 9));
                refused(BAD, () -> twoOfASort(0), x -> x.copy(with, 9, sheet, 9, 9));
            }
            refused(BAD, () -> twoOfASort(0), x -> x.copy(sheet, 0, sheet, 0, 0));
        }
        for (int other = 0; other < 4; other++) {
            int with = other;
            refused(NOTHING, () -> twoOfASort(1), x -> x.copy(3, 0, with, 0, 0));
            refused(NOTHING, () -> twoOfASort(1), x -> x.copy(with, 0, 3, 0, 0));
            refused(NOTHING, () -> twoOfASort(1), x -> x.copy(3, -1, with, 9, 9));
            refused(NOTHING, () -> twoOfASort(1), x -> x.copy(with, -1, 3, 9, -9));
        }
        for (int sort = 0; sort < 3; sort++) {
            int of = sort;
            for (int[] row : new int[][] {{0, 0, 1}, {0, 0, 0}, {-1, 0, 1}, {0, 9, 1}, {0, 0, -1}}) {
                refused(KIND, () -> twoOfASort(of), x -> x.copy(0, row[0], 2, row[1], row[2]));
                refused(KIND, () -> twoOfASort(of), x -> x.copy(2, row[0], 1, row[1], row[2]));
            }
            int[][] beyond = {{-1, 0, 1}, {0, -1, 1}, {-1, 0, 0}, {0, -1, 0}, {5, 0, 1}, {0, 3, 1}, {4, 0, 2}, {0, 2, 2}, {3, 0, 3}, {6, 0, 0}, {0, 4, 0},
                {0, 0, 4}, {0, 0, 6}, {0, 0, -1}, {1, 1, -1}, {5, 3, -2}, {LEAST, 0, 1}, {MOST, 0, 1}, {0, LEAST, 1}, {0, MOST, 1}, {0, 0, LEAST}, {0, 0, MOST},
                {1, 1, MOST}, {MOST, MOST, MOST}, {LEAST, LEAST, LEAST}, {MOST, MOST, LEAST}, {-1, -1, 2}};
            for (int[] row : beyond) refused(INDEX, () -> twoOfASort(of), x -> x.copy(0, row[0], 1, row[1], row[2]));
            refused(INDEX, () -> twoOfASort(of), x -> x.copy(0, 1, 0, 0, 5));
            refused(INDEX, () -> twoOfASort(of), x -> x.copy(0, 0, 0, 1, 5));
        }
    }

    private static void same() {
        promise(45, "How many SHEETS have a place there that holds v as it is in their width (v narrowed to it first, as if it were marked there). BAD: place below 0.");
        due(new HearingBoards().same(0, 0), 0);
        due(new HearingBoards().same(-1, 0), BAD);
        for (int place : new int[] {-1, LEAST}) refused(BAD, Edges::rich, x -> x.same(place, 0));
        HearingBoards x = new HearingBoards();
        x.sheet(0, 0, 1);
        x.sheet(1, 1, 2);
        x.sheet(2, 2, 24);
        x.sheet(3, 2, 0);
        int[][] zeros = {{0, 3}, {1, 2}, {2, 1}, {23, 1}, {24, 0}, {MOST, 0}};
        for (int[] row : zeros) due(x.same(row[0], 0), row[1]);
        int[][] narrowed = {{256, 1}, {-256, 1}, {65536, 2}, {LEAST, 2}, {128, 0}, {255, 0}, {32768, 1}};
        for (int[] row : narrowed) due(x.same(0, row[0]), row[1]);
        for (int i = 0; i < 3; i++) x.add(i, 0, -1);
        int[][] ones = {{-1, 3}, {255, 1}, {65535, 2}, {MOST, 2}, {127, 0}};
        for (int[] row : ones) due(x.same(0, row[0]), row[1]);
        x.sheet(0, -1, 0);
        due(x.same(0, -1), 2);
        HearingBoards four = new HearingBoards();
        for (int i = 0; i < 4; i++) {
            four.sheet(i, i % 3, 24);
            four.add(i, 23, 5);
            due(four.same(23, 5), i + 1);
        }
        HearingBoards wide = new HearingBoards();
        wide.sheet(0, 2, 1);
        wide.add(0, 0, MOST);
        due(wide.add(0, 0, 1), LEAST);
        due(wide.same(0, LEAST), 0);
    }

    // ---- rows, images

    private static HearingBoards fullOfNumbers() {
        return until(60, WAITING, rich(), x -> x.tell(5));
    }

    private static void tell() {
        promise(46, "One more number waits: how many. FULL: 60 wait.");
        HearingBoards x = new HearingBoards();
        for (int i = 1; i <= 60; i++) due(x.tell(i % 2 == 0 ? LEAST : MOST), i);
        due(x.tell(0), FULL);
        due(x.count(WAITING), 60);
        x.check(1);
        due(x.tell(0), 1);
        refused(FULL, RowsEdgesTest::fullOfNumbers, y -> y.tell(5));
        refused(FULL, RowsEdgesTest::fullOfNumbers, y -> y.tell(LEAST));
    }

    /** One case, IN from day 0 on, and the image of a day; its days told are then day + 1, 0, day + 2, 0, .. */
    private static HearingBoards waiting(int day, int... row) {
        HearingBoards x = toDay(people(1), day);
        x.keep();
        for (int v : row) x.tell(v);
        return x;
    }

    private static void check() {
        promise(47, "two by two: 0; else 1 and how many stand right ahead of the first that is not (or is missing, or one too many)");
        int[][] rows = {{}, {1}, {2}, {1, 0}, {1, 1}, {2, 0}, {1, 0, 2}, {1, 0, 3}, {1, 0, 2, 0}, {1, 0, 2, 1}, {1, 0, 2, 0, 3}, {1, 0, 2, 0, 9}, {1, 0, 2, 0, 3, 0}};
        int[] ofOne = {1, 2, 1, 0, 2, 1, 3, 3, 3, 3, 3, 3, 3};
        int[] ofTwo = {1, 2, 1, 3, 2, 1, 4, 3, 0, 4, 5, 5, 5};
        for (int i = 0; i < rows.length; i++) {
            due(waiting(0, rows[i]).check(1), ofOne[i]);
            due(waiting(0, rows[i]).check(2), ofTwo[i]);
        }
        HearingBoards all = waiting(0);
        for (int i = 1; i <= 30; i++) {
            all.tell(i);
            all.tell(0);
        }
        due(all.check(30), 0);
        HearingBoards last = waiting(0);
        for (int i = 1; i <= 30; i++) {
            last.tell(i);
            last.tell(i == 30 ? 1 : 0);
        }
        due(last.check(30), 60);
        HearingBoards more = waiting(0);
        for (int i = 1; i <= 30; i++) {
            more.tell(i);
            more.tell(0);
        }
        due(more.check(29), 59);
        HearingBoards missing = waiting(0);
        for (int i = 1; i <= 29; i++) {
            missing.tell(i);
            missing.tell(0);
        }
        due(missing.check(30), 59);

        promise(47, "are THE DAYS TOLD of n DAYS (1 .. 30; also beyond DAY 2999)");
        due(waiting(2998, 2999, 0, 3000, 0, 3001, 0).check(3), 0);
        HearingBoards beyond = waiting(2999);
        for (int i = 1; i <= 30; i++) {
            beyond.tell(2999 + i);
            beyond.tell(0);
        }
        due(beyond.check(30), 0);
        due(beyond.count(TODAY), 2999);
        due(beyond.restore(), 2999);
    }

    private static void checkRefused() {
        promise(47, "The numbers that wait (none do then, whatever is answered)");
        for (int n : new int[] {1, 2}) {
            HearingBoards x = waiting(0, 1, 0);
            x.check(n);
            due(x.count(WAITING), 0);
            due(x.check(1), 1);
            x.tell(1);
            x.tell(0);
            due(x.check(1), 0);
        }
        HearingBoards one = rich();
        HearingBoards other = rich();
        due(one.check(4), 0);
        other.check(0);
        alike(one, other);

        promise(47, "BAD; NO: there is no IMAGE.");
        for (int n : new int[] {LEAST, -1, 0, 31, MOST}) {
            due(new HearingBoards().check(n), BAD);
            HearingBoards x = waiting(0, 1, 0);
            due(x.check(n), BAD);
            due(x.count(WAITING), 0);
            refusedBut(BAD, Edges::rich, y -> y.check(n), y -> y.check(4));
        }
        HearingBoards without = people(1);
        without.tell(1);
        without.tell(0);
        due(without.check(1), NO);
        due(without.count(WAITING), 0);
        due(without.check(30), NO);
    }

    private static void images() {
        promise(48, "AN IMAGE is kept: TODAY.");
        HearingBoards x = people(1);
        due(x.keep(), 0);
        due(toDay(x, 2999).keep(), 2999);
        due(x.restore(), 2999);
        HearingBoards empty = new HearingBoards();
        due(empty.keep(), 0);
        empty.person(0, 0, 0, 0);
        due(empty.restore(), 0);
        due(empty.count(CASES), 0);

        promise(49, "All is as THE IMAGE: TODAY. NO: there is none.");
        refused(NO, () -> feed(people(1), "let 1"), y -> y.restore());
        HearingBoards y = new HearingBoards();
        y.keep();
        HearingBoards full = fillAll(y);
        due(full.restore(), 0);
        alike(full, keptEmpty());
        HearingBoards kept = fillAll(new HearingBoards());
        kept.keep();
        HearingBoards again = fillAll(new HearingBoards());
        again.keep();
        kept.be(0, 1, 4);
        kept.recall(0);
        kept.flee(1);
        kept.back(1);
        kept.seed(3);
        kept.conflict(0, 0, 1);
        kept.table(0, 1, 5);
        kept.run(50);
        kept.restore();
        alike(kept, again);
    }

    private static HearingBoards keptEmpty() {
        HearingBoards x = new HearingBoards();
        x.keep();
        return x;
    }

    private static void count() {
        promise(50, "How many: 0 CASES, 1 IN, 2 OUT, 3 GONE, 4 SENTENCES, 5 SPANS, 6 GAPS, 7 CREDITS, 8 TEXTS, 9 PAPERS, 10 MEMBERS, 11 HEARINGS, 12 of these SET, 13 DOUBLES, 14 numbers that wait, 15 bytes of THE TAPE, 16 TODAY, 17 the SEED. BAD.");
        int[] want = {4, 2, 1, 1, 2, 4, 2, 4, 2, 5, 7, 4, 3, 2, 8, 10, 12, 4321};
        for (int what = 0; what < 18; what++) due(rich().count(what), want[what]);
        for (int what : new int[] {LEAST, -1, 18, MOST}) {
            due(new HearingBoards().count(what), BAD);
            refused(BAD, Edges::rich, x -> x.count(what));
        }
        HearingBoards full = fillAll(new HearingBoards());
        int[] most = {12, 0, 12, 0, 24, 29, 20, 40, 16, 40, 9, 12, 0, 20, 0, 0, 7, 999};
        for (int what = 0; what < 18; what++) due(full.count(what), most[what]);
    }

    public static void main(String[] args) {
        table();
        like();
        doubles();
        draws();
        sheet();
        add();
        copy();
        copyRefused();
        same();
        tell();
        check();
        checkRefused();
        images();
        count();
        finish(36, 50);
    }
}
