/** Boundary cases of texts: the terms about them, and promises 16 to 21. */
public final class TextsEdgesTest extends Edges {
    private static final String[] KEYS = {"first", "notice", "let", "again", "unwind"};
    private static final String[] NAMES = {"tch", "v", "rhcs", "w", "d"};

    private static HearingBoards last;

    /** A text by itself has no fault, and is taken; last is then the object that has it. */
    private static void good(String text) {
        last = new HearingBoards();
        due(law(last, text), 0);
        due(last.count(TEXTS), 1);
    }

    private static void fault(String text, int place) {
        last = new HearingBoards();
        due(law(last, text), -100 - place);
        due(last.count(TEXTS), 0);
        due(last.count(BYTES), 0);
    }

    private static void value(String e, int want) {
        good("let " + e);
        due(last.rules(0, 2, LEAST, MOST, -1, 0), want);
    }

    private static String row(String part, int many) {
        return part.repeat(many);
    }

    // ---- the terms

    private static void texts() {
        terms("TEXTS, 16 at most, numbered from 0");
        HearingBoards x = new HearingBoards();
        for (int i = 0; i < 16; i++) due(law(x, "let 1"), i);
        due(law(x, "let 1"), FULL);
        due(x.count(TEXTS), 16);

        terms("each of an OFFENCE (or of all: 8), in force from a DAY on");
        HearingBoards y = new HearingBoards();
        law(y, "let 1", 7, 3);
        law(y, "again 1", 8, 3);
        toDay(y, 2);
        due(y.why(7, 2), NONE);
        due(y.why(0, 3), NONE);
        toDay(y, 3);
        due(y.why(7, 2), 0);
        due(y.why(6, 2), NONE);
        due(y.why(0, 3), 1);
        due(y.why(7, 3), 1);
        due(toDay(y, 2999).why(7, 2), 0);

        terms("THE TAPE (96 bytes at most; an act that reads it uses it up, whatever it answers)");
        String ones = "let 1" + row("+1", 45);
        due(ones.length(), 95);
        good(ones + "0");
        due(last.rules(0, 2, 0, 0, 0, 0), 55);
        due(last.of(0, 3), 46);
        due(last.count(BYTES), 0);
        fault(ones + "+", 96);
        good(row(" ", 91) + "let 1");
        fault(row(" ", 96), 96);
        fault(row(" ", 93) + "let", 96);
        HearingBoards z = new HearingBoards();
        due(law(z, "let 1", 9, 0), BAD);
        due(z.count(BYTES), 0);
        due(z.text(8, 0), -100);
        due(law(z, "let ", 8, 0), -104);
        due(z.text(8, 0), -100);
        due(law(z, "let 1", 8, 0), 0);
        due(z.text(8, 0), -100);
        times(15, () -> law(z, "let 1"));
        due(law(z, "let 1"), FULL);
        due(z.count(BYTES), 0);
        due(z.text(8, 0), -100);
    }

    private static void keysAndNames() {
        terms("KEY: first | notice | let | again | unwind");
        for (int key = 0; key < 5; key++) {
            good(KEYS[key] + " 1");
            due(last.of(0, 0), key);
            fault(KEYS[key].substring(1) + " 1", 0);
            fault(KEYS[key].substring(0, KEYS[key].length() - 1) + " 1", 0);
            fault(KEYS[key] + "s 1", 0);
            fault(KEYS[key], KEYS[key].length());
            fault(KEYS[key] + " " + KEYS[key] + " 1", KEYS[key].length() + 1);
        }
        for (String key : KEYS) {
            for (int i = 0; i < key.length(); i++) {
                for (String c : new String[] {"", "x", "E", " "}) {
                    String other = key.substring(0, i) + c + key.substring(i + 1) + " 1";
                    fault(other, c.isBlank() && i == 0 ? c.length() : 0);
                }
            }
        }
        fault("", 0);
        fault("1", 0);
        fault("(let 1)", 0);

        terms("NAMES, each one letter: of first t TOTAL, c CREDIT (as known TODAY), h how often heard; of notice v (whether there are victims: 1, 0); of let r RISK, h how often heard, c CREDIT, s SERVED TODAY; of again w the cause of putting off; of unwind d DAYS that it was OUT");
        for (int key = 0; key < 5; key++) {
            for (char c = 'a'; c <= 'z'; c++) {
                String text = KEYS[key] + " " + c;
                if (NAMES[key].indexOf(c) >= 0) good(text);
                else fault(text, text.length() - 1);
            }
            fault(KEYS[key] + " " + NAMES[key].charAt(0) + NAMES[key].charAt(0), KEYS[key].length() + 1);
        }
    }

    /** Each byte where a text could begin, behind its KEY, where a PART is due, and behind one. */
    private static void bytes() {
        terms("A word is a row of letters a .. z, or of digits, as long as it goes; any other byte is a sign by itself");
        for (int b = 0; b < 256; b++) {
            boolean letter = b >= 'a' && b <= 'z';
            boolean digit = b >= '0' && b <= '9';
            String c = String.valueOf((char) b);
            if (b == ' ') good(c + "first t");
            else fault(c + "first t", 0);

            if (letter) fault("first" + c + "t", 0);
            else if (b == ' ' || b == '!') good("first" + c + "t");
            else if (b == '(') fault("first(t", 7);
            else fault("first" + c + "t", 5);

            if (digit || b == 't' || b == 'c' || b == 'h') good("first " + c);
            else if (b == ' ' || b == '!' || b == '(') fault("first " + c, 7);
            else fault("first " + c, 6);

            if (b == ' ') good("first t" + c);
            else if (letter) fault("first t" + c, 6);
            else if ("+-*/<=>&|".indexOf(b) >= 0) fault("first t" + c, 8);
            else fault("first t" + c, 7);
        }
    }

    private static void blanks() {
        terms("Between words and signs, and at the ends, there may be blanks (byte 32); a word right behind another one needs one");
        good("  first   (  t  +  ! 12  )  <  c  ");
        due(last.rules(0, 0, 3, 9, 0, 0), 1);
        good("first(t+!12)<c");
        good("first!t");
        good("first t");
        good("let r&h|c");
        fault("first12", 5);
        fault("first 1t", 7);
        fault("first t1", 7);
        fault("first 1 t", 8);
        fault("first t 1", 8);
        fault("first t t", 8);
        fault("first 1 1", 8);
        fault("first (t)1", 9);
        fault("first (t)t", 9);
        fault("first 1(t)", 7);
        fault("first t(1)", 7);
        fault("first t!c", 7);
        good("let 1+r");
        good("let r+1");
    }

    private static void numbers() {
        terms("NUMBER (1 to 4 digits)");
        good("let 0");
        due(last.rules(0, 2, 0, 0, 0, 0), 0);
        good("let 9999");
        due(last.rules(0, 2, 0, 0, 0, 0), 9999);
        good("let 0000");
        good("let 0089");
        due(last.rules(0, 2, 0, 0, 0, 0), 89);

        terms("a NUMBER of more than 4 digits");
        fault("let 10000", 4);
        fault("let 00001", 4);
        fault("let r+ 12345678 )", 7);
        fault("let 12345", 4);
        fault("let (12345", 5);
        fault("let r 12345", 6);
        fault("let r12345", 5);
        good("let 1234*1234");
    }

    private static void openOnes() {
        terms("the ninth ( that would be open within others, the ninth ! likewise, each by itself");
        good("let " + row("(", 8) + "r" + row(")", 8));
        fault("let " + row("(", 9) + "r" + row(")", 9), 12);
        fault("let " + row("( ", 9) + "r", 20);
        good("let " + row("(", 8) + "r" + row(")", 8) + "+" + row("(", 8) + "h" + row(")", 8));
        good("let " + row("(", 7) + "r+(h)+(c)" + row(")", 7));
        fault("let " + row("(", 8) + "r+(h)" + row(")", 8), 14);
        good("let " + row("!", 8) + "r");
        fault("let " + row("!", 9) + "r", 12);
        fault("let " + row("! ", 9) + "r", 20);
        good("let " + row("!", 8) + "r+" + row("!", 8) + "h");
        good("let " + row("!(", 8) + "r" + row(")", 8));
        good("let " + row("!", 8) + row("(", 8) + "r" + row(")", 8));
        good("let " + row("(", 8) + row("!", 8) + "r" + row(")", 8));
        fault("let " + row("!(", 8) + "!r" + row(")", 8), 20);
        fault("let " + row("!(", 8) + "(r" + row(")", 8), 20);
        fault("let " + row("!", 8) + "(!r)", 13);
        good("let " + row("!", 7) + "(!r+!h)");
        good("let (" + row("!", 8) + "r)*" + row("!", 8) + "h");
    }

    private static void endsAndOrder() {
        terms("the end (the place behind the last byte), if it comes too soon");
        fault("", 0);
        fault("  ", 2);
        fault("let", 3);
        fault("let  ", 5);
        fault("let (", 5);
        fault("let (r", 6);
        fault("let (r  ", 8);
        fault("let !", 5);
        for (char sign : "+-*/<=>&|".toCharArray()) {
            fault("let r" + sign, 6);
            fault("let r" + sign + " ", 7);
            fault("let (r" + sign + ")", 7);
        }

        terms("FAULT: the first byte of the first word or sign with which no TEXT goes on");
        fault("let )", 4);
        fault("let ()", 5);
        fault("let r)", 5);
        fault("let (r))", 7);
        fault("let + r", 4);
        fault("let - 1", 4);
        fault("let r ++ h", 7);
        fault("let r ? ? 12345", 6);
        fault("lets ? 12345", 0);
        fault("let abc", 4);
        fault("let r <= h", 7);

        terms("TEST: SUM [ (< | = | >) SUM ]");
        for (String one : new String[] {"<", "=", ">"}) {
            good("let r" + one + "h");
            good("let r" + one + "h&c" + one + "s|r" + one + "h");
            good("let (r" + one + "h)" + one + "(c" + one + "s)");
            for (String other : new String[] {"<", "=", ">"}) {
                fault("let r" + one + "h" + other + "c", 7);
                fault("let (r" + one + "h" + other + "c)", 8);
            }
        }
    }

    private static void values() {
        terms("Ints wrap; / is 0 by 0");
        value("r-1", MOST);
        value("h+1", LEAST);
        value("h+h", -2);
        value("r*c", LEAST);
        value("r/c", LEAST);
        value("r+r", 0);
        value("9999*9999*9999", (int) (9999L * 9999 * 9999));
        value("5/s", 0);
        value("0/0", 0);
        value("r/0", 0);
        value("7/s+3", 3);

        terms("/ cuts towards 0");
        value("(0-7)/2", -3);
        value("7/(0-2)", -3);
        value("1/2", 0);
        value("(0-1)/2", 0);
        value("(0-1)/(0-2)", 0);
        value("(0-4)/2", -2);

        terms("tests, & | ! give 1 or 0 (what is not 0 is true; both sides are worked out)");
        value("r<h", 1);
        value("h<h", 0);
        value("h>r", 1);
        value("h>h", 0);
        value("h=h", 1);
        value("h=r", 0);
        value("c&h", 1);
        value("c&s", 0);
        value("s&c", 0);
        value("s|r", 1);
        value("r|s", 1);
        value("s|s", 0);
        value("!c", 0);
        value("!s", 1);
        value("!!h", 1);
        value("0&5/0|7", 1);

        terms("E, the loosest first: OR: AND { | AND }; AND: TEST { & TEST }");
        value("1|1&0", 1);
        value("(1|1)&0", 0);
        value("0&0|1", 1);
        value("0&1=0", 0);
        value("2=1+1", 1);

        terms("SUM: TERM { (+ | -) TERM }; TERM: PART { (* | /) PART }; PART: NUMBER (1 to 4 digits) | NAME | ! PART | ( E )");
        value("1+2*3", 7);
        value("8-4-2", 2);
        value("64/8/2", 4);
        value("!0+1", 2);
        value("!1=0", 1);
    }

    private static void counting() {
        terms("with the latest DAY, of several the greatest number");
        HearingBoards x = new HearingBoards();
        law(x, "let 1", 8, 2);
        law(x, "let 2", 3, 1);
        due(x.why(3, 2), NONE);
        toDay(x, 1);
        due(x.why(3, 2), 1);
        due(x.why(4, 2), NONE);
        toDay(x, 2);
        due(x.why(3, 2), 0);
        law(x, "let 3", 3, 2);
        due(x.why(3, 2), 2);
        due(x.why(4, 2), 0);
        law(x, "let 4", 8, 2);
        due(x.why(3, 2), 3);
        law(x, "let 5", 3, 1);
        due(x.why(3, 2), 3);
        law(x, "again 5", 3, 2);
        due(x.why(3, 2), 3);
        law(x, "let 6", 3, 3);
        due(x.why(3, 2), 3);
        due(toDay(x, 3).why(3, 2), 6);

        terms("without a TEXT: first t / 2, notice 7 * v, let 0, again 28, unwind 0");
        HearingBoards y = new HearingBoards();
        int[][] rows = {{0, 0, 0}, {0, 1, 0}, {0, 2, 1}, {0, 3, 1}, {1, 0, 0}, {1, 1, 7}, {2, 9, 0}, {3, 9, 28}, {3, 0, 28}, {4, 9, 0}};
        for (int[] row : rows) due(y.rules(5, row[0], row[1], 6, 6, 6), row[2]);
    }

    private static void held() {
        terms("It is held: of first 0 .. 99999, of notice 0 .. 99, of again 1 .. 99.");
        HearingBoards x = new HearingBoards();
        for (int key = 0; key < 5; key++) law(x, KEYS[key] + " " + NAMES[key].charAt(0));
        int[][] least = {{0, 0}, {1, 0}, {3, 1}};
        int[][] most = {{0, 99999}, {1, 99}, {3, 99}};
        for (int[] row : least) {
            for (int v : new int[] {LEAST, row[1] - 1, row[1]}) due(x.rules(0, row[0], v, 0, 0, 0), row[1]);
            due(x.rules(0, row[0], row[1] + 1, 0, 0, 0), row[1] + 1);
        }
        for (int[] row : most) {
            for (int v : new int[] {MOST, row[1] + 1, row[1]}) due(x.rules(0, row[0], v, 0, 0, 0), row[1]);
            due(x.rules(0, row[0], row[1] - 1, 0, 0, 0), row[1] - 1);
        }
        for (int v : new int[] {LEAST, -1, 0, 100000, MOST}) {
            due(x.rules(0, 2, v, 0, 0, 0), v);
            due(x.rules(0, 4, v, 0, 0, 0), v);
        }
        HearingBoards without = new HearingBoards();
        due(without.rules(0, 0, 199999, 0, 0, 0), 99999);
        due(without.rules(0, 0, 200000, 0, 0, 0), 99999);
        due(without.rules(0, 0, 199997, 0, 0, 0), 99998);
        due(without.rules(0, 0, -2, 0, 0, 0), 0);
        due(without.rules(0, 1, 14, 0, 0, 0), 98);
        due(without.rules(0, 1, 15, 0, 0, 0), 99);
        due(without.rules(0, 1, -1, 0, 0, 0), 0);

        HearingBoards first = people(1);
        law(first, "first 0-50");
        first.credit(0, -1);
        due(first.due(0, 0), 0);
        due(first.due(0, 1), 1);
        HearingBoards never = people(1);
        law(never, "notice 500");
        never.paper(1, 0, 999);
        never.paper(3, 0, 98);
        never.paper(3, 0, 99);
        due(toDay(never, 98).cause(0), 3);
        due(toDay(never, 99).cause(0), 0);
        HearingBoards soon = toDay(people(1), 3);
        law(soon, "notice 0-5");
        soon.paper(1, 0, 1);
        soon.paper(3, 0, 3);
        due(soon.cause(0), 0);
        HearingBoards again = people(2);
        law(again, "again 0-5", 0, 0);
        again.be(1, 1, 3);
        again.hearing(0, 0);
        again.run(1);
        due(again.heard(0, 1), 1);
        law(again, "again 9999", 0, 1);
        again.run(1);
        due(again.heard(0, 1), 100);
    }

    private static void dueAndDate() {
        terms("whether SERVED on it, and CREDIT as known on it, together are THE RULE of first or more (by the TEXTS that count TODAY; c, h as TODAY)");
        HearingBoards x = people(1);
        x.sentence(0, 20, 0);
        due(x.due(0, 9), 0);
        due(x.due(0, 10), 1);
        x.credit(0, 1);
        due(x.due(0, 8), 0);
        due(x.due(0, 9), 1);
        x.credit(0, -2);
        due(x.due(0, 10), 0);
        due(x.due(0, 11), 1);
        toDay(x, 5).back(1);
        due(x.due(0, 9), 1);
        due(x.due(0, 8), 0);
        x.credit(0, 99);
        due(x.due(0, 4), 0);
        due(x.due(0, 5), 1);
        law(x, "first 0", 8, 6);
        due(x.due(0, 4), 0);
        due(toDay(x, 6).due(0, 4), 1);
        HearingBoards c = people(1);
        law(c, "first c*10");
        c.run(1);
        c.credit(0, 2);
        due(c.due(0, 0), 0);
        due(c.due(0, 17), 0);
        due(c.due(0, 18), 1);
        HearingBoards h = ready(1);
        law(h, "first h*10");
        due(h.due(0, 0), 1);
        hear(h, 0);
        due(h.due(0, 9), 0);
        due(h.due(0, 10), 1);

        terms("DATE: the first DAY from TODAY on on which it would be DUE");
        HearingBoards past = people(1);
        law(past, "first 5");
        due(past.date(0), 5);
        due(toDay(past, 4).date(0), 5);
        due(toDay(past, 5).date(0), 5);
        due(toDay(past, 6).date(0), 6);
        past.credit(0, -1);
        due(past.date(0), 6);
        past.credit(0, -1);
        due(past.date(0), 7);

        terms("NONE: not within 3000 DAYS from TODAY on, or it is not IN");
        HearingBoards y = people(1);
        law(y, "first 2999");
        due(y.date(0), 2999);
        law(y, "first 3000");
        due(y.date(0), NONE);
        due(toDay(y, 1).date(0), 3000);
        due(toDay(y, 2999).date(0), 3000);
        law(y, "first 5998");
        due(y.date(0), 5998);
        law(y, "first 5999");
        due(y.date(0), NONE);
        law(y, "first 0");
        due(y.date(0), 2999);
        y.gone(0);
        due(y.date(0), NONE);
        due(out().date(0), NONE);
        HearingBoards fled = toDay(people(1), 4);
        fled.flee(0);
        law(fled, "first 4");
        due(fled.date(0), 4);
        law(fled, "first 5");
        due(fled.date(0), NONE);

        terms("if it stays IN and nothing more is told (GAPS as told)");
        HearingBoards z = people(1);
        law(z, "first 5");
        z.gap(0, 4, 6);
        due(z.date(0), 7);
        z.gap(0, 6, 9);
        due(z.date(0), 10);
        z.gap(0, 10, 12);
        due(z.date(0), 10);
        z.gap(0, 9, 10);
        due(z.date(0), 13);
        z.gap(0, 3, 9999);
        due(z.date(0), NONE);
        due(toDay(z, 2).date(0), NONE);
        z.credit(0, 2);
        due(z.date(0), 3);
    }

    // ---- the promises

    private static void feedAndTrim() {
        promise(16, "Twelve bytes come to THE TAPE, the highest of each number first: how many it has");
        HearingBoards x = new HearingBoards();
        due(x.feed('l' << 24 | 'e' << 16 | 't' << 8 | ' ', '1' << 24 | '2' << 16 | '3' << 8 | '4', ' ' << 24 | '+' << 16 | ' ' << 8 | '5'), 12);
        due(x.text(8, 0), 0);
        due(x.rules(0, 2, 0, 0, 0, 0), 1239);
        HearingBoards high = new HearingBoards();
        due(high.feed(' ' << 24 | 'l' << 16 | 'e' << 8 | 't', ' ' << 24 | 'r' << 16 | 0xFFFF, -1), 12);
        due(high.text(8, 0), -106);

        promise(16, "FULL: it would have more than 96.");
        HearingBoards y = new HearingBoards();
        for (int i = 1; i <= 8; i++) due(y.feed(i, i, i), 12 * i);
        due(y.feed(0, 0, 0), FULL);
        due(y.count(BYTES), 96);
        due(y.trim(84), 84);
        due(y.feed(0, 0, 0), 96);
        refused(FULL, () -> feed(rich(), "let 2345+r" + row(" ", 75)), z -> z.feed(0, 0, 0));
        refused(FULL, () -> feed(rich(), "let 2345+r" + row(" ", 86)), z -> z.feed(0, 0, 0));

        promise(17, "THE TAPE keeps its first n bytes: n. BAD.");
        HearingBoards z = new HearingBoards();
        due(z.trim(0), 0);
        due(z.trim(1), BAD);
        due(z.trim(-1), BAD);
        feed(z, "let 1234");
        due(z.trim(9), BAD);
        due(z.trim(8), 8);
        due(z.trim(6), 6);
        due(z.trim(7), BAD);
        due(z.count(BYTES), 6);
        due(z.text(8, 0), 0);
        due(z.rules(0, 2, 0, 0, 0, 0), 12);
        feed(z, "let 1234");
        due(z.trim(0), 0);
        due(z.text(8, 0), -100);
        for (int n : new int[] {LEAST, -1, 11, 97, MOST}) refused(BAD, Edges::rich, w -> w.trim(n));
    }

    private static void text() {
        promise(18, "THE TAPE is a TEXT of an OFFENCE (0 .. 7; 8: of all) from a DAY (0 .. 2999) on: its number.");
        int[][] taken = {{0, 0}, {7, 0}, {8, 0}, {0, 2999}, {8, 2999}};
        for (int[] row : taken) {
            HearingBoards x = rich();
            due(x.text(row[0], row[1]), 2);
            due(x.of(2, 1), row[0]);
            due(x.of(2, 2), row[1]);
            due(x.count(BYTES), 0);
        }

        promise(18, "BAD (asked first; THE TAPE is used up, too); -100 less the place of its FAULT; FULL.");
        int[][] beyond = {{-1, 0}, {9, 0}, {0, -1}, {0, 3000}, {LEAST, 0}, {MOST, 0}, {0, LEAST}, {0, MOST}};
        for (int[] row : beyond) refusedBut(BAD, Edges::rich, x -> x.text(row[0], row[1]), x -> x.trim(0));
        refusedBut(BAD, () -> feed(rich(), "let ?"), x -> x.text(9, 0), x -> x.trim(0));
        refusedBut(BAD, TextsEdgesTest::fullOfTexts, x -> x.text(0, 3000), x -> x.trim(0));
        refusedBut(-104, () -> feed(rich(), "let ?"), x -> x.text(8, 0), x -> x.trim(0));
        refusedBut(-104, () -> feed(fullOfTexts(), "let ?"), x -> x.text(8, 0), x -> x.trim(0));
        refusedBut(-100, () -> feed(rich(), ""), x -> x.text(8, 0), x -> x.trim(0));
        refusedBut(-196, () -> feed(rich(), "let r+" + row(" ", 90)), x -> x.text(8, 0), x -> x.trim(0));
        refusedBut(FULL, TextsEdgesTest::fullOfTexts, x -> x.text(8, 0), x -> x.trim(0));
    }

    /** What was read ahead of a text, good or not, leaves nothing behind for it. */
    private static void oneBehindAnother() {
        promise(18, "THE TAPE is a TEXT of an OFFENCE");
        String[] faults = {"let abc", "let 1a", "let 12345", "let r r", "let (((r", "let !!!", "lex", "12", "let r+1" + row("*2", 40) + "?", "let r" + row("<h&r", 20) + "<h<"};
        HearingBoards x = new HearingBoards();
        int texts = 0;
        for (String text : faults) {
            due(law(x, text) <= -100 ? 1 : 0, 1);
            due(law(x, "let " + texts + "+r"), texts);
            due(x.of(texts, 3), 2);
            due(x.of(texts, 0), 2);
            due(x.rules(0, 2, 1000, 0, 0, 0), 1000 + texts);
            texts++;
        }
        due(law(x, "first t"), texts);
        due(x.of(texts, 3), 1);
        due(x.of(texts, 0), 0);
        due(x.rules(0, 0, 77, 0, 0, 0), 77);
        due(x.rules(0, 2, 1000, 0, 0, 0), 999 + texts);
        HearingBoards longOnes = new HearingBoards();
        for (int i = 0; i < 16; i++) {
            due(law(longOnes, "let " + i + row("+1", 42)), i);
            due(longOnes.of(i, 3), 43);
            due(longOnes.rules(0, 2, 0, 0, 0, 0), 42 + i);
        }
    }

    private static HearingBoards fullOfTexts() {
        return feed(until(16, TEXTS, rich(), x -> law(x, "let h=0", 3, 2000)), "let 1");
    }

    private static void of() {
        promise(19, "Of a TEXT: what 0 KEY (0 .. 4, as told), 1 OFFENCE, 2 the DAY, 3 how many NUMBERS and NAMES it has. BAD.");
        for (int key = 0; key < 5; key++) {
            HearingBoards x = new HearingBoards();
            law(x, KEYS[key] + " 1", 8, 2999);
            int[] want = {key, 8, 2999, 1};
            for (int what = 0; what < 4; what++) due(x.of(0, what), want[what]);
        }
        HearingBoards y = new HearingBoards();
        law(y, "let !(r+1)*((h<2))&0034|!!s", 0, 0);
        due(y.of(0, 3), 6);
        int[][] bad = {{-1, 0}, {2, 0}, {LEAST, 0}, {MOST, 0}, {0, -1}, {0, 4}, {0, LEAST}, {0, MOST}, {16, 0}};
        for (int[] row : bad) refused(BAD, Edges::rich, x -> x.of(row[0], row[1]));
        due(new HearingBoards().of(0, 0), BAD);
        HearingBoards full = fullOfTexts();
        due(full.of(15, 2), 2000);
        due(full.of(16, 2), BAD);
    }

    private static void whyAndRules() {
        promise(20, "WHY: the TEXT that counts for an OFFENCE (0 .. 7) and a KEY TODAY. BAD; NONE.");
        HearingBoards x = new HearingBoards();
        for (int key = 0; key < 5; key++) {
            due(x.why(0, key), NONE);
            due(x.why(7, key), NONE);
            law(x, KEYS[key] + " 1");
            due(x.why(0, key), key);
            due(x.why(7, key), key);
        }
        int[][] bad = {{-1, 0}, {8, 0}, {0, -1}, {0, 5}, {LEAST, 0}, {MOST, 0}, {0, LEAST}, {0, MOST}};
        for (int[] row : bad) refused(BAD, Edges::rich, y -> y.why(row[0], row[1]));

        promise(21, "THE RULE of an OFFENCE and a KEY TODAY, for told numbers in the order in which its NAMES stand above (others do not matter). BAD.");
        String[] texts = {"first t*100+c*10+h", "notice v", "let r*1000+h*100+c*10+s", "again w", "unwind d"};
        int[] want = {123, 1, 1234, 1, 1};
        for (int key = 0; key < 5; key++) {
            HearingBoards y = new HearingBoards();
            law(y, texts[key]);
            due(y.rules(0, key, 1, 2, 3, 4), want[key]);
            due(y.rules(7, key, 1, 2, 3, 4), want[key]);
            int names = NAMES[key].length();
            due(y.rules(0, key, 1, names > 1 ? 2 : MOST, names > 2 ? 3 : LEAST, names > 3 ? 4 : -1), want[key]);
        }
        for (int[] row : bad) refused(BAD, Edges::rich, y -> y.rules(row[0], row[1], 1, 1, 1, 1));
    }

    public static void main(String[] args) {
        texts();
        keysAndNames();
        bytes();
        blanks();
        numbers();
        openOnes();
        endsAndOrder();
        values();
        counting();
        held();
        dueAndDate();
        feedAndTrim();
        text();
        oneBehindAnother();
        of();
        whyAndRules();
        finish(16, 21);
    }
}
