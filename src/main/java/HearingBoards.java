import java.util.Arrays;

/** Hearings for release; ../shared/DOC.md says what each call promises. */
public final class HearingBoards {
    public static final int BAD = -1000000001, NO = -1000000002, FULL = -1000000003, NONE = -1000000005, NOTHING = -1000000011, KIND = -1000000012, INDEX = -1000000013, SIZE = -1000000014;

    private static final int LAST_TODAY = 2999, LAST_DAY = 9999;
    private static final int OFFENCES = 8, ALL_OFFENCES = 8, PRISONS = 6, KEYS = 5;
    private static final int MOST_MARKS = 255, MOST_WEEKDAYS = 127, MOST_PRISONS = 63;
    private static final int MOST_RUN = 60, MOST_CHECKED = 30, MOST_WAITING = 60, MOST_DOUBLES = 20;
    private static final int SHEETS = 4, MOST_SEED = 65535;

    /** KEYS of texts. */
    private static final int FIRST = 0, NOTICE_KEY = 1, LET_KEY = 2, AGAIN = 3, UNWIND = 4;

    /** Columns of cases; the first five are also the numbers by which told and be ask for them. */
    private static final int OFFENCE = 0, PRISON = 1, MARKS = 2, STATE = 3, VICTIMS = 4, TIMES_HEARD = 5;
    private static final int IN = 0, OUT = 1, GONE = 2;

    /** Columns of papers, by the numbers that paperTold asks for; and their KINDS. */
    private static final int PAPER_KIND = 0, PAPER_CASE = 1, PAPER_A = 2, PAPER_CAME = 3;
    private static final int PAPER = 0, REPORT = 1, TAPE = 2, NOTICE = 3, CONDITION = 4, KINDS = 5;
    /** The KIND right above each KIND; -1 above the one that all are under. */
    private static final int[] ABOVE = {-1, PAPER, REPORT, PAPER, PAPER};

    /** Columns of members, by the numbers that is asks for. */
    private static final int OFF = 0, GOES_TO = 1, CONFLICTS = 2, TURNS = 3;

    /** Columns of hearings, by the numbers that heard asks for; and their states. */
    private static final int HEARING_CASE = 0, HEARING_DAY = 1, HEARING_STATE = 2, PUT_OFF = 3, CAUSE = 4;
    private static final int SET = 0, HEARD = 1, LET = 2, VOID = 3;
    private static final int NOT_DUE = 1, NO_REPORT = 2, NO_NOTICE = 3, NO_BOARD = 4;

    /** Columns of the table of risks. */
    private static final int TABLE_ROWS = 8, TABLE_AGAIN = 0, TABLE_OF = 1, TABLE_WRONG = 2;

    private final Books books = new Books();
    private final Books image = new Books();
    /** check lets days go by here, so that neither the books nor the image change. */
    private final Books trial = new Books();
    private boolean imageKept;

    private final Tape tape = new Tape();
    private final TextReader reader = new TextReader(tape);
    private final Sheet[] sheets = {new Sheet(), new Sheet(), new Sheet(), new Sheet()};
    private final int[] waiting = new int[MOST_WAITING];
    private int waitingCount;

    public HearingBoards() {
    }

    // ---- cases, time

    public int person(int offence, int prison, int marks, int victims) {
        if (!within(offence, 0, OFFENCES - 1) || !within(prison, 0, PRISONS - 1)) return BAD;
        if (!within(marks, 0, MOST_MARKS) || !within(victims, 0, 1)) return BAD;
        if (books.cases.isFull() || books.time.spans.isFull()) return FULL;
        int person = books.cases.more(offence, prison, marks, IN);
        books.cases.put(person, VICTIMS, victims);
        books.time.beginSpan(person, books.today);
        return person;
    }

    public int told(int person, int what) {
        if (!books.cases.has(person)) return BAD;
        switch (what) {
            case OFFENCE:
            case PRISON:
            case MARKS:
            case STATE:
            case VICTIMS:
                return books.cases.at(person, what);
            case 5:
                return books.time.totalOf(person);
            case 6:
                return books.cases.at(person, TIMES_HEARD);
            case 7:
                return books.hundredthsFor(person, TABLE_AGAIN);
            case 8:
                return books.hundredthsFor(person, TABLE_WRONG);
            case 9:
                return books.setHearingOf(person);
            default:
                return BAD;
        }
    }

    public int be(int person, int what, int v) {
        if (!books.cases.has(person) || !within(v, 0, mostOfCase(what))) return BAD;
        return books.cases.exchange(person, what, v);
    }

    public int sentence(int person, int days, int top) {
        if (!books.cases.has(person) || !within(days, 1, 9999) || !within(top, 0, 1)) return BAD;
        if (books.stateOf(person) == GONE) return NO;
        if (books.time.sentences.isFull()) return FULL;
        return books.time.sentences.more(person, days, top, 0);
    }

    public int gap(int person, int from, int to) {
        if (!books.cases.has(person)) return BAD;
        if (!within(from, 0, LAST_DAY) || !within(to, 0, LAST_DAY) || to <= from) return BAD;
        if (books.time.gaps.isFull()) return FULL;
        return books.time.gaps.more(person, from, to, 0) + 1;
    }

    public int flee(int person) {
        if (!books.cases.has(person)) return BAD;
        if (books.stateOf(person) != IN || books.hasFled(person)) return NO;
        books.time.endSpan(person, books.today);
        return 1;
    }

    public int caught(int person) {
        if (!books.cases.has(person)) return BAD;
        if (!books.hasFled(person)) return NO;
        if (books.time.spans.isFull()) return FULL;
        books.time.beginSpan(person, books.today);
        return 1;
    }

    public int gone(int person) {
        if (!books.cases.has(person)) return BAD;
        if (books.stateOf(person) == GONE) return NO;
        books.leave(person, GONE);
        return 1;
    }

    public int served(int person, int day) {
        if (!books.cases.has(person) || !within(day, 0, LAST_DAY)) return BAD;
        return books.time.servedOf(person, day);
    }

    public int credit(int person, int n) {
        if (!books.cases.has(person) || !within(n, -99, 99) || n == 0) return BAD;
        if (books.stateOf(person) == GONE) return NO;
        if (books.time.credits.isFull()) return FULL;
        return books.time.credits.more(person, n, books.today, Time.NEVER);
    }

    public int back(int credit) {
        Rows credits = books.time.credits;
        if (!credits.has(credit)) return BAD;
        if (credits.at(credit, Time.CREDIT_DAYS) > 0) return KIND;
        if (credits.at(credit, Time.BACK) != Time.NEVER) return NO;
        credits.put(credit, Time.BACK, books.today);
        return 1;
    }

    public int credits(int person, int known) {
        if (!books.cases.has(person) || !within(known, 0, LAST_TODAY)) return BAD;
        return books.time.creditOf(person, known);
    }

    public int due(int person, int day) {
        if (!books.cases.has(person) || !within(day, 0, LAST_DAY)) return BAD;
        return books.isDue(person, day) ? 1 : 0;
    }

    public int date(int person) {
        if (!books.cases.has(person)) return BAD;
        return books.dateOf(person);
    }

    // ---- texts

    public int feed(int a, int b, int c) {
        if (!tape.hasRoom()) return FULL;
        tape.append(a);
        tape.append(b);
        tape.append(c);
        return tape.size;
    }

    public int trim(int n) {
        if (!within(n, 0, tape.size)) return BAD;
        tape.size = n;
        return n;
    }

    public int text(int offence, int day) {
        boolean bad = !within(offence, 0, ALL_OFFENCES) || !within(day, 0, LAST_TODAY);
        int fault = bad ? 0 : reader.readTape();
        tape.size = 0;
        if (bad) return BAD;
        if (fault != TextReader.NO_FAULT) return -100 - fault;
        return books.law.enact(reader.made(offence, day));
    }

    public int of(int text, int what) {
        Text told = books.law.textAt(text);
        if (told == null) return BAD;
        switch (what) {
            case 0:
                return told.key;
            case 1:
                return told.offence;
            case 2:
                return told.day;
            case 3:
                return told.leaves;
            default:
                return BAD;
        }
    }

    public int why(int offence, int key) {
        if (!within(offence, 0, OFFENCES - 1) || !within(key, 0, KEYS - 1)) return BAD;
        return books.law.countingText(offence, key, books.today);
    }

    public int rules(int offence, int key, int a, int b, int c, int d) {
        if (!within(offence, 0, OFFENCES - 1) || !within(key, 0, KEYS - 1)) return BAD;
        return books.law.ruleOf(offence, key, books.today, a, b, c, d);
    }

    // ---- papers, boards, hearings

    public int paper(int kind, int person, int a) {
        if (!within(kind, 0, KINDS - 1) || !books.cases.has(person) || !fitsKind(kind, a)) return BAD;
        if (books.papers.isFull()) return FULL;
        return books.papers.more(kind, person, a, books.today);
    }

    public int paperTold(int paper, int what) {
        if (!books.papers.has(paper) || !within(what, 0, 4)) return BAD;
        if (what <= PAPER_CAME) return books.papers.at(paper, what);
        return isUnder(books.papers.at(paper, PAPER_KIND), REPORT) ? books.lastDayHeld(paper) : NONE;
    }

    public int as(int paper, int kind) {
        if (!books.papers.has(paper) || !within(kind, 0, KINDS - 1)) return BAD;
        if (!isUnder(books.papers.at(paper, PAPER_KIND), kind)) return KIND;
        return books.papers.at(paper, PAPER_A);
    }

    public int member(int off, int prisons) {
        if (!within(off, 0, MOST_WEEKDAYS) || !within(prisons, 0, MOST_PRISONS)) return BAD;
        if (books.members.isFull()) return FULL;
        return books.members.more(off, prisons, 0, 0);
    }

    public int conflict(int member, int person, int on) {
        if (!books.members.has(member) || !books.cases.has(person) || !within(on, 0, 1)) return BAD;
        int bit = 1 << person;
        int before = books.members.at(member, CONFLICTS);
        books.members.put(member, CONFLICTS, on == 1 ? before | bit : before & ~bit);
        return (before & bit) == 0 ? 0 : 1;
    }

    public int is(int member, int what) {
        if (!books.members.has(member) || !within(what, OFF, TURNS)) return BAD;
        return books.members.at(member, what);
    }

    public int board(int cases, int prison, int day) {
        int all = (1 << books.cases.size) - 1;
        if ((cases & ~all) != 0 || !within(prison, 0, PRISONS - 1) || !within(day, 0, LAST_DAY)) return BAD;
        return books.boardFor(cases, prison, day);
    }

    public int hearing(int person, int day) {
        if (!books.cases.has(person) || !within(day, books.today, LAST_TODAY)) return BAD;
        if (books.stateOf(person) != IN || books.setHearingOf(person) != NONE) return NO;
        if (books.hearings.isFull()) return FULL;
        return books.hearings.more(person, day, SET, 0);
    }

    public int heard(int hearing, int what) {
        if (!books.hearings.has(hearing) || !within(what, HEARING_CASE, CAUSE)) return BAD;
        return books.hearings.at(hearing, what);
    }

    public int cause(int person) {
        if (!books.cases.has(person)) return BAD;
        if (books.stateOf(person) != IN) return NO;
        return books.causeToday(person);
    }

    public int puts(int cause) {
        if (!within(cause, NOT_DUE, NO_BOARD)) return BAD;
        return books.timesPutOffBy(cause);
    }

    public int recall(int person) {
        if (!books.cases.has(person)) return BAD;
        if (books.stateOf(person) != OUT) return NO;
        if (books.time.spans.isFull()) return FULL;
        books.cases.put(person, STATE, IN);
        books.time.beginSpan(person, books.today);
        return 1;
    }

    public int unwind(int hearing) {
        if (!books.hearings.has(hearing)) return BAD;
        if (!books.canUnwind(hearing)) return NO;
        boolean goesOn = books.unwindRule(hearing) != 0;
        if (!goesOn && books.time.spans.isFull()) return FULL;
        books.undo(hearing, goesOn);
        return goesOn ? 1 : 0;
    }

    public int run(int n) {
        if (!within(n, 1, MOST_RUN)) return BAD;
        if (books.today + n > LAST_TODAY) return FULL;
        for (int i = 0; i < n; i++) books.passDay();
        return books.today;
    }

    // ---- like cases, doubles, tables

    public int table(int row, int what, int v) {
        if (!within(row, 0, TABLE_ROWS - 1) || !within(what, TABLE_AGAIN, TABLE_WRONG)) return BAD;
        if (!within(v, 0, 9999)) return BAD;
        return books.table.exchange(row, what, v);
    }

    public int like(int person, int what) {
        if (!books.cases.has(person) || !within(what, 0, 2)) return BAD;
        int let = books.hearingsOfLike(person, LET);
        int all = let + books.hearingsOfLike(person, HEARD);
        if (what == 0) return all;
        if (what == 1) return let;
        return all == 0 ? NONE : hundredths(let, all);
    }

    public int twice(int one, int other) {
        if (!within(one, 0, 1) || !within(other, 0, 1)) return BAD;
        if (books.doubles >= MOST_DOUBLES) return FULL;
        books.doubles++;
        if (one != other) books.differing++;
        return books.doubles;
    }

    public int spread() {
        return books.doubles == 0 ? NONE : hundredths(books.differing, books.doubles);
    }

    public int seed(int v) {
        if (!within(v, 0, MOST_SEED)) return BAD;
        int before = books.seed;
        books.seed = v;
        return before;
    }

    public int draw() {
        if (books.members.size < 6) return NO;
        int first = books.drawThree(0);
        return first + 512 * books.drawThree(first);
    }

    // ---- sheets

    public int sheet(int sheet, int sort, int n) {
        Sheet named = sheetAt(sheet);
        if (named == null || !within(sort, Sheet.MISSING, Sheet.LONGS)) return BAD;
        int places = sort == Sheet.MISSING ? 0 : n;
        if (places > Sheet.MOST_PLACES) return BAD;
        if (places < 0) return SIZE;
        named.become(sort, places);
        return places;
    }

    public int add(int sheet, int place, int v) {
        Sheet named = sheetAt(sheet);
        if (named == null) return BAD;
        if (named.sort == Sheet.MISSING) return NOTHING;
        if (!named.has(place)) return INDEX;
        return (int) named.raise(place, v);
    }

    public int copy(int from, int place, int to, int at, int many) {
        Sheet source = sheetAt(from);
        Sheet target = sheetAt(to);
        if (source == null || target == null) return BAD;
        if (source.sort == Sheet.MISSING || target.sort == Sheet.MISSING) return NOTHING;
        if (source.sort != target.sort) return KIND;
        if (!source.hasRow(place, many) || !target.hasRow(at, many)) return INDEX;
        System.arraycopy(source.cells, place, target.cells, at, many);
        return many;
    }

    public int same(int place, int v) {
        if (place < 0) return BAD;
        int many = 0;
        for (int i = 0; i < SHEETS; i++) {
            Sheet sheet = sheetAt(i);
            if (sheet != null && sheet.holds(place, v)) many++;
        }
        return many;
    }

    // ---- rows, images

    public int tell(int v) {
        if (!within(waitingCount, 0, waiting.length - 1)) return FULL;
        waiting[waitingCount] = v;
        waitingCount++;
        return waitingCount;
    }

    public int check(int n) {
        int told = waitingCount;
        waitingCount = 0;
        if (!within(n, 1, MOST_CHECKED)) return BAD;
        if (!imageKept) return NO;
        trial.become(image);
        for (int i = 0; i < n; i++) {
            trial.passDay();
            if (!waits(2 * i, told, trial.servedByAll())) return 1 + 2 * i;
            if (!waits(2 * i + 1, told, trial.casesThatAre(OUT))) return 2 + 2 * i;
        }
        return told > 2 * n ? 1 + 2 * n : 0;
    }

    public int keep() {
        image.become(books);
        imageKept = true;
        return books.today;
    }

    public int restore() {
        if (!imageKept) return NO;
        books.become(image);
        return books.today;
    }

    public int count(int what) {
        switch (what) {
            case 0: return books.cases.size;
            case 1: return books.casesThatAre(IN);
            case 2: return books.casesThatAre(OUT);
            case 3: return books.casesThatAre(GONE);
            case 4: return books.time.sentences.size;
            case 5: return books.time.spans.size;
            case 6: return books.time.gaps.size;
            case 7: return books.time.credits.size;
            case 8: return books.law.size;
            case 9: return books.papers.size;
            case 10: return books.members.size;
            case 11: return books.hearings.size;
            case 12: return books.hearingsSet();
            case 13: return books.doubles;
            case 14: return waitingCount;
            case 15: return tape.size;
            case 16: return books.today;
            case 17: return books.seed;
            default: return BAD;
        }
    }

    // ---- what the calls above share

    private static boolean within(int v, int least, int most) {
        return v >= least && v <= most;
    }

    private static int hundredths(int part, int whole) {
        return whole == 0 ? 0 : part * 100 / whole;
    }

    /** The greatest v that be takes; -1, which no v is within, where it takes none. */
    private static int mostOfCase(int what) {
        switch (what) {
            case PRISON:
                return PRISONS - 1;
            case MARKS:
                return MOST_MARKS;
            case VICTIMS:
                return 1;
            default:
                return -1;
        }
    }

    private boolean fitsKind(int kind, int a) {
        switch (kind) {
            case PAPER:
                return a == 0;
            case REPORT:
            case TAPE:
                return within(a, 1, 999);
            case NOTICE:
                return within(a, books.today, LAST_DAY);
            case CONDITION:
                return within(a, 0, 9);
            default:
                return false;
        }
    }

    /** Whether a KIND is another one, or stands anywhere under it. */
    private static boolean isUnder(int kind, int other) {
        int now = kind;
        for (int i = 0; i < KINDS && within(now, 0, ABOVE.length - 1); i++) {
            if (now == other) return true;
            now = ABOVE[now];
        }
        return false;
    }

    private Sheet sheetAt(int sheet) {
        return within(sheet, 0, sheets.length - 1) ? sheets[sheet] : null;
    }

    /** Whether v is the number that waits at a place, of so many that were told. */
    private boolean waits(int place, int told, int v) {
        return place < told && within(place, 0, waiting.length - 1) && waiting[place] == v;
    }

    /** Rows of int columns, made once: restoring an image only changes what stands in them. */
    private static final class Rows {
        final int limit;
        final int width;
        final int[] cells;
        int size;

        Rows(int limit, int width) {
            this.limit = limit;
            this.width = width;
            cells = new int[Math.max(0, limit * width)];
        }

        boolean has(int row) {
            return row >= 0 && row < size;
        }

        boolean isFull() {
            return size >= limit;
        }

        int at(int row, int column) {
            int place = row * width + column;
            if (column < 0 || column >= width || place < 0 || place >= cells.length) return 0;
            return cells[place];
        }

        void put(int row, int column, int v) {
            int place = row * width + column;
            if (column < 0 || column >= width || place < 0 || place >= cells.length) return;
            cells[place] = v;
        }

        int exchange(int row, int column, int v) {
            int before = at(row, column);
            put(row, column, v);
            return before;
        }

        /** One more row, for callers that saw that it is not full; columns behind the fourth are 0. */
        int more(int a, int b, int c, int d) {
            int row = size;
            size++;
            put(row, 0, a);
            put(row, 1, b);
            put(row, 2, c);
            put(row, 3, d);
            for (int column = 4; column < width; column++) put(row, column, 0);
            return row;
        }

        void become(Rows other) {
            size = other.size;
            System.arraycopy(other.cells, 0, cells, 0, Math.min(cells.length, other.cells.length));
        }
    }

    /** Sentences, spans, gaps and credits of the cases. */
    private static final class Time {
        static final int CASE = 0;
        static final int SENTENCE_DAYS = 1, ON_TOP = 2;
        static final int FROM = 1, TO = 2;
        static final int CREDIT_DAYS = 1, TOLD = 2, BACK = 3;
        /** A day behind all others: of a span that goes on, of a credit not given back. */
        static final int NEVER = 2147483647;

        final Rows sentences = new Rows(24, 3);
        final Rows spans = new Rows(30, 3);
        final Rows gaps = new Rows(20, 3);
        final Rows credits = new Rows(40, 4);

        void become(Time other) {
            sentences.become(other.sentences);
            spans.become(other.spans);
            gaps.become(other.gaps);
            credits.become(other.credits);
        }

        int totalOf(int person) {
            int longest = 0;
            int onTop = 0;
            for (int i = 0; i < sentences.size; i++) {
                if (sentences.at(i, CASE) != person) continue;
                int days = sentences.at(i, SENTENCE_DAYS);
                if (sentences.at(i, ON_TOP) == 1) onTop += days;
                else longest = Math.max(longest, days);
            }
            return longest + onTop;
        }

        int creditOf(int person, int known) {
            int sum = 0;
            for (int i = 0; i < credits.size; i++) {
                if (credits.at(i, CASE) != person || credits.at(i, TOLD) > known) continue;
                if (credits.at(i, BACK) > known) sum += credits.at(i, CREDIT_DAYS);
            }
            return sum;
        }

        /** Spans of one case never overlap: one begins only while none goes on. */
        int servedOf(int person, int day) {
            int days = 0;
            for (int i = 0; i < spans.size; i++) {
                if (spans.at(i, CASE) != person) continue;
                days += freeDays(person, spans.at(i, FROM), Math.min(day, spans.at(i, TO)));
            }
            return days;
        }

        /** Days from one up to another in no gap of the case, going from edge to edge of the gaps. */
        private int freeDays(int person, int from, int to) {
            int free = 0;
            int day = from;
            for (int edge = 0; day < to && edge <= 2 * gaps.limit + 1; edge++) {
                int end = day;
                int next = to;
                for (int i = 0; i < gaps.size; i++) {
                    if (gaps.at(i, CASE) != person) continue;
                    int start = gaps.at(i, FROM);
                    if (start <= day) end = Math.max(end, gaps.at(i, TO));
                    else next = Math.min(next, start);
                }
                if (end == day) free += next - day;
                day = end == day ? next : end;
            }
            return free;
        }

        void beginSpan(int person, int day) {
            spans.more(person, day, NEVER, 0);
        }

        void endSpan(int person, int day) {
            int span = latestSpan(person);
            if (goesOn(span)) spans.put(span, TO, day);
        }

        /** The latest span of a case goes on as if it had not ended. */
        void reopenSpan(int person) {
            int span = latestSpan(person);
            if (spans.has(span)) spans.put(span, TO, NEVER);
        }

        boolean goesOn(int span) {
            return spans.has(span) && spans.at(span, TO) == NEVER;
        }

        int latestSpan(int person) {
            for (int i = spans.size - 1; i >= 0; i--) {
                if (spans.at(i, CASE) == person) return i;
            }
            return NONE;
        }
    }

    /** The texts, and what they (or, without one, the document) rule. */
    private static final class Law {
        final Text[] texts = new Text[16];
        int size;
        /** Used again by every rule: rules are asked for far more often than texts are made. */
        private final Stack stack = new Stack();

        /** Texts never change, so that books and their image may share them. */
        void become(Law other) {
            size = other.size;
            for (int i = 0; i < texts.length && i < other.texts.length; i++) texts[i] = other.texts[i];
        }

        /** The number of the text; FULL. */
        int enact(Text text) {
            if (size < 0 || size >= texts.length) return FULL;
            texts[size] = text;
            size++;
            return size - 1;
        }

        Text textAt(int text) {
            return text >= 0 && text < size && text < texts.length ? texts[text] : null;
        }

        int countingText(int offence, int key, int day) {
            int best = NONE;
            int latest = -1;
            for (int i = 0; i < size; i++) {
                Text text = textAt(i);
                if (text == null || !text.counts(offence, key, day) || text.day < latest) continue;
                best = i;
                latest = text.day;
            }
            return best;
        }

        int ruleOf(int offence, int key, int day, int a, int b, int c, int d) {
            Text text = textAt(countingText(offence, key, day));
            return held(key, text == null ? unwritten(key, a) : text.value(stack, a, b, c, d));
        }

        private static int unwritten(int key, int a) {
            switch (key) {
                case FIRST:
                    return a / 2;
                case NOTICE_KEY:
                    return 7 * a;
                case AGAIN:
                    return 28;
                default:
                    return 0;
            }
        }

        private static int held(int key, int v) {
            switch (key) {
                case FIRST:
                    return Math.max(0, Math.min(99999, v));
                case NOTICE_KEY:
                    return Math.max(0, Math.min(99, v));
                case AGAIN:
                    return Math.max(1, Math.min(99, v));
                default:
                    return v;
            }
        }
    }

    /** A text as it was read: its E with each sign behind what it joins. */
    private static final class Text {
        /** Codes from 0 on are numbers, these are names (by their order), those below are signs. */
        static final int FIRST_NAME = -1, LAST_NAME = -4;

        final int key;
        final int offence;
        final int day;
        final int leaves;
        private final int[] codes;

        Text(int key, int offence, int day, int leaves, int[] codes) {
            this.key = key;
            this.offence = offence;
            this.day = day;
            this.leaves = leaves;
            this.codes = codes;
        }

        boolean counts(int forOffence, int forKey, int onDay) {
            return key == forKey && day <= onDay && (offence == forOffence || offence == ALL_OFFENCES);
        }

        int value(Stack stack, int a, int b, int c, int d) {
            stack.clear();
            for (int i = 0; i < codes.length; i++) {
                int code = codes[i];
                if (code >= 0) {
                    stack.push(code);
                } else if (code >= LAST_NAME) {
                    stack.push(named(FIRST_NAME - code, a, b, c, d));
                } else if (code == -'!') {
                    stack.push(stack.pop() == 0 ? 1 : 0);
                } else {
                    int right = stack.pop();
                    int left = stack.pop();
                    stack.push(joined(left, -code, right));
                }
            }
            return stack.pop();
        }

        private static int named(int name, int a, int b, int c, int d) {
            switch (name) {
                case 0:
                    return a;
                case 1:
                    return b;
                case 2:
                    return c;
                default:
                    return d;
            }
        }

        private static int joined(int left, int sign, int right) {
            switch (sign) {
                case '*':
                    return left * right;
                case '/':
                    return right == 0 ? 0 : left / right;
                case '+':
                    return left + right;
                case '-':
                    return left - right;
                case '<':
                    return left < right ? 1 : 0;
                case '=':
                    return left == right ? 1 : 0;
                case '>':
                    return left > right ? 1 : 0;
                case '&':
                    return left != 0 && right != 0 ? 1 : 0;
                case '|':
                    return left != 0 || right != 0 ? 1 : 0;
                default:
                    return 0;
            }
        }
    }

    /** The numbers that a text works with; no text has more of them than the tape has bytes. */
    private static final class Stack {
        private final int[] cells = new int[Tape.LIMIT];
        private int size;

        void clear() {
            size = 0;
        }

        void push(int v) {
            if (size < 0 || size >= cells.length) return;
            cells[size] = v;
            size++;
        }

        int pop() {
            if (size <= 0 || size > cells.length) return 0;
            size--;
            return cells[size];
        }
    }

    /** Bytes that wait to be read as a text. */
    private static final class Tape {
        static final int LIMIT = 96, A_FEED = 12;

        private final byte[] bytes = new byte[LIMIT];
        int size;

        boolean hasRoom() {
            return size + A_FEED <= LIMIT;
        }

        void append(int four) {
            for (int shift = 24; shift >= 0; shift -= 8) {
                if (size < 0 || size >= bytes.length) return;
                bytes[size] = (byte) (four >> shift);
                size++;
            }
        }

        /** 0 .. 255; -1 where the tape has no byte. */
        int byteAt(int place) {
            if (place < 0 || place >= size || place >= bytes.length) return -1;
            return bytes[place] & 255;
        }
    }

    /** Reads the tape as KEY E, up to its end or its fault. */
    private static final class TextReader {
        static final int NO_FAULT = -1;
        /** What stands next; GLUED is a word that lacks the blank ahead of it, which nothing takes. */
        private static final int START = 0, END = 1, SIGN = 2, LETTERS = 3, DIGITS = 4, GLUED = 5;
        /** Levels of E, the loosest first; behind the last one come its parts. */
        private static final int OR = 0, AND = 1, TEST = 2, SUM = 3, TERM = 4, PART = 5;
        private static final int MOST_OPEN = 8, MOST_DIGITS = 4;

        private final Tape tape;
        private final int[] codes = new int[Tape.LIMIT];
        private int codeCount;
        private int leaves;
        private int key;
        private int fault;
        private int sort;
        private int place;
        private int behind;

        TextReader(Tape tape) {
            this.tape = tape;
        }

        /** The place of the tape's fault, or NO_FAULT. */
        int readTape() {
            codeCount = 0;
            leaves = 0;
            fault = NO_FAULT;
            sort = START;
            behind = 0;
            advance();
            key = keyHere();
            if (key == NONE) return place;
            advance();
            readLevel(OR, 0, 0);
            if (sort != END) refuse();
            return fault;
        }

        Text made(int offence, int day) {
            return new Text(key, offence, day, leaves, Arrays.copyOf(codes, Math.max(0, codeCount)));
        }

        /** parens and nots: how many ( and ! are open here. */
        private void readLevel(int level, int parens, int nots) {
            if (level >= PART) {
                readPart(parens, nots);
                return;
            }
            readLevel(level + 1, parens, nots);
            int most = level == TEST ? 1 : Tape.LIMIT;
            for (int i = 0; i < most && fault == NO_FAULT && signIsOf(level); i++) {
                int sign = tape.byteAt(place);
                advance();
                readLevel(level + 1, parens, nots);
                emit(-sign);
            }
        }

        private void readPart(int parens, int nots) {
            if (sort == DIGITS && behind - place <= MOST_DIGITS) {
                emitLeaf(numberHere());
            } else if (sort == LETTERS && nameHere() != NONE) {
                emitLeaf(Text.FIRST_NAME - nameHere());
            } else if (isSign('!') && nots < MOST_OPEN) {
                advance();
                readPart(parens, nots + 1);
                emit(-'!');
            } else if (isSign('(') && parens < MOST_OPEN) {
                advance();
                readLevel(OR, parens + 1, nots);
                if (isSign(')')) advance();
                else refuse();
            } else {
                refuse();
            }
        }

        private void refuse() {
            if (fault == NO_FAULT) fault = place;
        }

        private void emitLeaf(int code) {
            leaves++;
            emit(code);
            advance();
        }

        private void emit(int code) {
            if (codeCount < 0 || codeCount >= codes.length) return;
            codes[codeCount] = code;
            codeCount++;
        }

        /** Goes on to the next word or sign, or to the end. */
        private void advance() {
            int before = behind;
            boolean wordBefore = isWord(sort);
            place = before;
            while (place < Tape.LIMIT && tape.byteAt(place) == ' ') place++;
            sort = sortAt(place);
            behind = sort == END ? place : place + 1;
            if (!isWord(sort)) return;
            while (behind < Tape.LIMIT && sortAt(behind) == sort) behind++;
            if (wordBefore && place == before) sort = GLUED;
        }

        private int sortAt(int at) {
            int b = tape.byteAt(at);
            if (b < 0) return END;
            if (b >= 'a' && b <= 'z') return LETTERS;
            return b >= '0' && b <= '9' ? DIGITS : SIGN;
        }

        private static boolean isWord(int sort) {
            return sort == LETTERS || sort == DIGITS;
        }

        private boolean isSign(int sign) {
            return sort == SIGN && tape.byteAt(place) == sign;
        }

        private boolean signIsOf(int level) {
            return sort == SIGN && signsOf(level).indexOf((char) tape.byteAt(place)) >= 0;
        }

        private int numberHere() {
            int v = 0;
            for (int i = place; i < behind; i++) v = v * 10 + tape.byteAt(i) - '0';
            return v;
        }

        private int nameHere() {
            int name = behind - place == 1 ? namesOf(key).indexOf((char) tape.byteAt(place)) : -1;
            return name < 0 ? NONE : name;
        }

        private int keyHere() {
            if (sort != LETTERS) return NONE;
            for (int i = 0; i < KEYS; i++) {
                if (isWordHere(wordOf(i))) return i;
            }
            return NONE;
        }

        private boolean isWordHere(String word) {
            if (behind - place != word.length()) return false;
            for (int i = 0; i < word.length(); i++) {
                if (tape.byteAt(place + i) != word.charAt(i)) return false;
            }
            return true;
        }

        private static String wordOf(int key) {
            switch (key) {
                case FIRST:
                    return "first";
                case NOTICE_KEY:
                    return "notice";
                case LET_KEY:
                    return "let";
                case AGAIN:
                    return "again";
                default:
                    return "unwind";
            }
        }

        /** In the order in which a rule is told its numbers. */
        private static String namesOf(int key) {
            switch (key) {
                case FIRST:
                    return "tch";
                case NOTICE_KEY:
                    return "v";
                case LET_KEY:
                    return "rhcs";
                case AGAIN:
                    return "w";
                default:
                    return "d";
            }
        }

        private static String signsOf(int level) {
            switch (level) {
                case OR:
                    return "|";
                case AND:
                    return "&";
                case TEST:
                    return "<=>";
                case SUM:
                    return "+-";
                default:
                    return "*/";
            }
        }
    }

    /** All that an image keeps. */
    private static final class Books {
        final Rows cases = new Rows(12, 6);
        final Rows papers = new Rows(40, 4);
        final Rows members = new Rows(9, 4);
        final Rows hearings = new Rows(30, 5);
        final Rows table = new Rows(TABLE_ROWS, 3);
        /** How often each cause put a hearing off, in column 0 of the row of its number. */
        private final Rows putOffs = new Rows(NO_BOARD + 1, 1);
        final Time time = new Time();
        final Law law = new Law();
        int today;
        int seed;
        int doubles;
        int differing;

        void become(Books other) {
            cases.become(other.cases);
            papers.become(other.papers);
            members.become(other.members);
            hearings.become(other.hearings);
            table.become(other.table);
            putOffs.become(other.putOffs);
            time.become(other.time);
            law.become(other.law);
            today = other.today;
            seed = other.seed;
            doubles = other.doubles;
            differing = other.differing;
        }

        // -- cases

        int stateOf(int person) {
            return cases.at(person, STATE);
        }

        int casesThatAre(int state) {
            int many = 0;
            for (int i = 0; i < cases.size; i++) {
                if (stateOf(i) == state) many++;
            }
            return many;
        }

        /** A case that is IN has a span that goes on, unless it fled. */
        boolean hasFled(int person) {
            return stateOf(person) == IN && !time.goesOn(time.latestSpan(person));
        }

        void leave(int person, int state) {
            cases.put(person, STATE, state);
            time.endSpan(person, today);
        }

        int servedByAll() {
            int days = 0;
            for (int i = 0; i < cases.size; i++) days += time.servedOf(i, today);
            return days;
        }

        int hundredthsFor(int person, int column) {
            int row = Integer.bitCount(cases.at(person, MARKS)) % TABLE_ROWS;
            return hundredths(table.at(row, column), table.at(row, TABLE_OF));
        }

        boolean isDue(int person, int day) {
            int first = law.ruleOf(cases.at(person, OFFENCE), FIRST, today, time.totalOf(person),
                    time.creditOf(person, today), cases.at(person, TIMES_HEARD), 0);
            return time.servedOf(person, day) + time.creditOf(person, day) >= first;
        }

        /** From today on a case that is due stays due, so that halving finds its first day. */
        int dateOf(int person) {
            int least = today;
            int most = today + 2999;
            if (stateOf(person) != IN || !isDue(person, most)) return NONE;
            for (int i = 0; i < 12 && least < most; i++) {
                int middle = (least + most) / 2;
                if (isDue(person, middle)) most = middle;
                else least = middle + 1;
            }
            return most;
        }

        // -- boards

        /** As digits, the least first; NONE. */
        int boardFor(int people, int prison, int day) {
            int able = membersFor(people, prison, day);
            int best = NONE;
            int least = 2147483647;
            for (int i = 0; i < members.size; i++) {
                for (int j = i + 1; j < members.size; j++) {
                    for (int k = j + 1; k < members.size; k++) {
                        int three = 1 << i | 1 << j | 1 << k;
                        int turns = members.at(i, TURNS) + members.at(j, TURNS) + members.at(k, TURNS);
                        if ((three & ~able) != 0 || turns >= least) continue;
                        least = turns;
                        best = i * 100 + j * 10 + k;
                    }
                }
            }
            return best;
        }

        /** Members (bits) who could sit there then, for these cases (bits). */
        private int membersFor(int people, int prison, int day) {
            int able = 0;
            for (int i = 0; i < members.size; i++) {
                boolean goes = (members.at(i, GOES_TO) >> prison & 1) == 1;
                boolean off = (members.at(i, OFF) >> day % 7 & 1) == 1;
                if (goes && !off && (members.at(i, CONFLICTS) & people) == 0) able |= 1 << i;
            }
            return able;
        }

        private void takeTurns(int board) {
            addTurn(board / 100);
            addTurn(board / 10 % 10);
            addTurn(board % 10);
        }

        private void addTurn(int member) {
            members.put(member, TURNS, members.at(member, TURNS) + 1);
        }

        /** Three members (bits) of those who are not taken yet (bits). */
        int drawThree(int taken) {
            int drawn = 0;
            for (int i = 0; i < 3; i++) drawn |= drawOne(taken | drawn);
            return drawn;
        }

        private int drawOne(int taken) {
            seed = (25173 * seed + 13849) % 65536;
            int left = members.size - Integer.bitCount(taken);
            int place = left <= 0 ? 0 : seed % left;
            for (int i = 0; i < members.size; i++) {
                if ((taken >> i & 1) == 1) continue;
                if (place == 0) return 1 << i;
                place--;
            }
            return 0;
        }

        // -- hearings

        int hearingsSet() {
            int many = 0;
            for (int i = 0; i < hearings.size; i++) {
                if (hearings.at(i, HEARING_STATE) == SET) many++;
            }
            return many;
        }

        int setHearingOf(int person) {
            for (int i = 0; i < hearings.size; i++) {
                if (hearings.at(i, HEARING_CASE) == person && hearings.at(i, HEARING_STATE) == SET) return i;
            }
            return NONE;
        }

        int timesPutOffBy(int cause) {
            return putOffs.at(cause, 0);
        }

        int lastDayHeld(int paper) {
            return papers.at(paper, PAPER_CAME) + papers.at(paper, PAPER_A) - 1;
        }

        /** What would put a hearing of the case off today (but for the board); 0: nothing. */
        int causeToday(int person) {
            if (!isDue(person, today)) return NOT_DUE;
            if (!hasReport(person)) return NO_REPORT;
            return hasNotice(person) ? 0 : NO_NOTICE;
        }

        private boolean hasReport(int person) {
            for (int i = 0; i < papers.size; i++) {
                boolean report = isUnder(papers.at(i, PAPER_KIND), REPORT);
                if (report && papers.at(i, PAPER_CASE) == person && lastDayHeld(i) >= today) return true;
            }
            return false;
        }

        private boolean hasNotice(int person) {
            int ahead = law.ruleOf(cases.at(person, OFFENCE), NOTICE_KEY, today, cases.at(person, VICTIMS), 0, 0, 0);
            for (int i = 0; i < papers.size; i++) {
                boolean notice = isUnder(papers.at(i, PAPER_KIND), NOTICE) && papers.at(i, PAPER_A) == today;
                if (notice && papers.at(i, PAPER_CASE) == person && today - papers.at(i, PAPER_CAME) >= ahead) return true;
            }
            return false;
        }

        void passDay() {
            int set = hearingsToday();
            for (int prison = 0; set != 0 && prison < PRISONS; prison++) {
                int list = sift(set, prison);
                if (list == 0) continue;
                int board = boardFor(casesOn(list), prison, today);
                if (board == NONE) {
                    putAllOff(list);
                } else {
                    takeTurns(board);
                    hearAll(list);
                }
            }
            voidLeft(set);
            today++;
        }

        /** Hearings (bits) that are set for today. */
        private int hearingsToday() {
            int set = 0;
            for (int i = 0; i < hearings.size; i++) {
                if (hearings.at(i, HEARING_DAY) == today && hearings.at(i, HEARING_STATE) == SET) set |= 1 << i;
            }
            return set;
        }

        /** Puts off what has a cause to be; what has none, in that prison, is the list (bits). */
        private int sift(int set, int prison) {
            int list = 0;
            for (int i = 0; i < hearings.size; i++) {
                int person = hearings.at(i, HEARING_CASE);
                boolean here = stateOf(person) == IN && cases.at(person, PRISON) == prison;
                if ((set >> i & 1) == 0 || !here) continue;
                int cause = causeToday(person);
                if (cause == 0) list |= 1 << i;
                else putOff(i, cause);
            }
            return list;
        }

        private int casesOn(int list) {
            int people = 0;
            for (int i = 0; i < hearings.size; i++) {
                if ((list >> i & 1) == 1) people |= 1 << hearings.at(i, HEARING_CASE);
            }
            return people;
        }

        private void putAllOff(int list) {
            for (int i = 0; i < hearings.size; i++) {
                if ((list >> i & 1) == 1) putOff(i, NO_BOARD);
            }
        }

        private void putOff(int hearing, int cause) {
            int offence = cases.at(hearings.at(hearing, HEARING_CASE), OFFENCE);
            hearings.put(hearing, HEARING_DAY, today + law.ruleOf(offence, AGAIN, today, cause, 0, 0, 0));
            hearings.put(hearing, PUT_OFF, hearings.at(hearing, PUT_OFF) + 1);
            hearings.put(hearing, CAUSE, cause);
            putOffs.put(cause, 0, putOffs.at(cause, 0) + 1);
        }

        private void hearAll(int list) {
            for (int i = 0; i < hearings.size; i++) {
                if ((list >> i & 1) == 1) hearOne(i);
            }
        }

        private void hearOne(int hearing) {
            int person = hearings.at(hearing, HEARING_CASE);
            int times = cases.at(person, TIMES_HEARD);
            int let = law.ruleOf(cases.at(person, OFFENCE), LET_KEY, today, hundredthsFor(person, TABLE_AGAIN),
                    times, time.creditOf(person, today), time.servedOf(person, today));
            cases.put(person, TIMES_HEARD, times + 1);
            hearings.put(hearing, HEARING_STATE, let == 0 ? HEARD : LET);
            if (let != 0) leave(person, OUT);
        }

        /** Cases that are not in when their day comes are in no prison's list. */
        private void voidLeft(int set) {
            for (int i = 0; i < hearings.size; i++) {
                boolean left = (set >> i & 1) == 1 && hearings.at(i, HEARING_STATE) == SET;
                if (left && stateOf(hearings.at(i, HEARING_CASE)) != IN) hearings.put(i, HEARING_STATE, VOID);
            }
        }

        // -- what comes behind a hearing

        boolean canUnwind(int hearing) {
            int person = hearings.at(hearing, HEARING_CASE);
            if (hearings.at(hearing, HEARING_STATE) != LET || stateOf(person) != OUT) return false;
            for (int i = hearing + 1; i < hearings.size; i++) {
                if (hearings.at(i, HEARING_CASE) == person && hearings.at(i, HEARING_STATE) == LET) return false;
            }
            return true;
        }

        int unwindRule(int hearing) {
            int offence = cases.at(hearings.at(hearing, HEARING_CASE), OFFENCE);
            return law.ruleOf(offence, UNWIND, today, today - hearings.at(hearing, HEARING_DAY), 0, 0, 0);
        }

        void undo(int hearing, boolean goesOn) {
            int person = hearings.at(hearing, HEARING_CASE);
            hearings.put(hearing, HEARING_STATE, VOID);
            cases.put(person, STATE, IN);
            if (goesOn) time.reopenSpan(person);
            else time.beginSpan(person, today);
        }

        /** How many hearings of like cases are in a state. */
        int hearingsOfLike(int person, int state) {
            int many = 0;
            for (int i = 0; i < hearings.size; i++) {
                boolean counts = hearings.at(i, HEARING_STATE) == state;
                if (counts && areLike(person, hearings.at(i, HEARING_CASE))) many++;
            }
            return many;
        }

        private boolean areLike(int one, int other) {
            int differ = Integer.bitCount(cases.at(one, MARKS) ^ cases.at(other, MARKS));
            return one != other && differ <= 1 && cases.at(one, OFFENCE) == cases.at(other, OFFENCE);
        }
    }

    /** A row of bytes, shorts or longs; its cells hold what fits their width. */
    private static final class Sheet {
        static final int MISSING = -1, BYTES = 0, SHORTS = 1, LONGS = 2, MOST_PLACES = 24;

        final long[] cells = new long[MOST_PLACES];
        int sort = MISSING;
        private int size;

        void become(int newSort, int places) {
            sort = newSort;
            size = places;
            Arrays.fill(cells, 0L);
        }

        boolean has(int place) {
            return place >= 0 && place < size && place < cells.length;
        }

        /** Whether so many places stand there, from one on. */
        boolean hasRow(int place, int many) {
            return place >= 0 && many >= 0 && place <= size && many <= size - place && size <= cells.length;
        }

        long raise(int place, int v) {
            if (!has(place)) return 0;
            cells[place] = narrowed(cells[place] + v);
            return cells[place];
        }

        boolean holds(int place, int v) {
            return has(place) && cells[place] == narrowed(v);
        }

        private long narrowed(long v) {
            if (sort == BYTES) return (byte) v;
            return sort == SHORTS ? (short) v : v;
        }
    }
}
