import java.lang.reflect.Method;
import java.util.ArrayList;
import java.util.Arrays;
import java.util.List;
import java.util.Map;
import java.util.Random;
import java.util.TreeMap;
import java.util.function.ToIntFunction;
import java.util.regex.Matcher;
import java.util.regex.Pattern;

/**
 * Long runs of drawn calls, each answer held against a model that is written another way than the class:
 * day by day where the class goes by edges, flags where it looks at spans, an image as the row of calls that
 * led to it, texts by splitting them at their loosest sign. The draws have fixed seeds.
 */
public final class ModelTest {
    static final int BAD = HearingBoards.BAD, NO = HearingBoards.NO, FULL = HearingBoards.FULL, NONE = HearingBoards.NONE;
    static final int NOTHING = HearingBoards.NOTHING, KIND = HearingBoards.KIND, INDEX = HearingBoards.INDEX, SIZE = HearingBoards.SIZE;

    // ---- texts, by tokens

    static final List<String> KEYS = List.of("first", "notice", "let", "again", "unwind");
    static final List<String> NAMES = List.of("tch", "v", "rhcs", "w", "d");

    static final class Token {
        final String s;
        final int start, end;

        Token(String s, int start, int end) {
            this.s = s;
            this.start = start;
            this.end = end;
        }

        boolean word() {
            return s.matches("[a-z]+|[0-9]+");
        }
    }

    static List<Token> tokens(String text) {
        List<Token> row = new ArrayList<>();
        Matcher m = Pattern.compile("[a-z]+|[0-9]+|[^ ]", Pattern.DOTALL).matcher(text);
        while (m.find()) row.add(new Token(m.group(), m.start(), m.end()));
        return row;
    }

    /** -1, or the place of the fault: what may stand next is told by a few flags, without descending. */
    static int fault(String text) {
        List<Token> row = tokens(text);
        int key = -1;
        boolean operand = true;
        int pending = 0;
        int openNots = 0;
        List<Integer> notsAt = new ArrayList<>();
        List<Boolean> comparedAt = new ArrayList<>(List.of(false));
        Token before = null;
        for (Token t : row) {
            boolean glued = before != null && before.word() && t.word() && before.end == t.start;
            before = t;
            if (glued) return t.start;
            if (key < 0) {
                key = KEYS.indexOf(t.s);
                if (key < 0) return t.start;
                continue;
            }
            int level = comparedAt.size() - 1;
            if (operand) {
                boolean number = t.s.matches("[0-9]{1,4}");
                boolean name = t.s.matches("[a-z]") && NAMES.get(key).contains(t.s);
                if (number || name) {
                    operand = false;
                    pending = 0;
                } else if (t.s.equals("!")) {
                    if (openNots + pending == 8) return t.start;
                    pending++;
                } else if (t.s.equals("(")) {
                    if (level == 8) return t.start;
                    notsAt.add(pending);
                    openNots += pending;
                    pending = 0;
                    comparedAt.add(false);
                } else {
                    return t.start;
                }
            } else if (t.s.equals(")") && level > 0) {
                openNots -= notsAt.remove(notsAt.size() - 1);
                comparedAt.remove(level);
            } else if ("+-*/".contains(t.s)) {
                operand = true;
            } else if ("&|".contains(t.s)) {
                operand = true;
                comparedAt.set(level, false);
            } else if ("<=>".contains(t.s) && !comparedAt.get(level)) {
                operand = true;
                comparedAt.set(level, true);
            } else {
                return t.start;
            }
        }
        return key < 0 || operand || comparedAt.size() > 1 ? text.length() : -1;
    }

    /** The value of a good E: split at the last of its loosest signs that stand outside of ( ). */
    static int value(List<Token> e, String names, int[] told) {
        for (String signs : List.of("|", "&", "<=>", "+-", "*/")) {
            int depth = 0;
            for (int i = e.size() - 1; i > 0; i--) {
                String s = e.get(i).s;
                if (s.equals(")")) depth++;
                if (s.equals("(")) depth--;
                if (depth != 0 || s.length() != 1 || !signs.contains(s)) continue;
                int a = value(e.subList(0, i), names, told);
                int b = value(e.subList(i + 1, e.size()), names, told);
                return join(s.charAt(0), a, b);
            }
        }
        String s = e.get(0).s;
        if (s.equals("!")) return value(e.subList(1, e.size()), names, told) == 0 ? 1 : 0;
        if (s.equals("(")) return value(e.subList(1, e.size() - 1), names, told);
        return Character.isDigit(s.charAt(0)) ? Integer.parseInt(s) : told[names.indexOf(s)];
    }

    static int join(char sign, int a, int b) {
        switch (sign) {
            case '|': return a != 0 || b != 0 ? 1 : 0;
            case '&': return a != 0 && b != 0 ? 1 : 0;
            case '<': return a < b ? 1 : 0;
            case '=': return a == b ? 1 : 0;
            case '>': return a > b ? 1 : 0;
            case '+': return a + b;
            case '-': return a - b;
            case '*': return a * b;
            default: return b == 0 ? 0 : a / b;
        }
    }

    // ---- what an image keeps

    static final class Span {
        final int from;
        Integer to;

        Span(int from) {
            this.from = from;
        }
    }

    static final class Case {
        int offence, prison, marks, state, victims, heard;
        boolean fled;
        final List<Span> spans = new ArrayList<>();
        final List<int[]> gaps = new ArrayList<>();
        final List<int[]> sentences = new ArrayList<>();

        void end(int day) {
            Span last = spans.get(spans.size() - 1);
            if (last.to == null) last.to = day;
        }

        boolean counts(int day) {
            for (int[] gap : gaps) if (day >= gap[0] && day < gap[1]) return false;
            for (Span span : spans) if (day >= span.from && (span.to == null || day < span.to)) return true;
            return false;
        }

        int served(int day) {
            int many = 0;
            for (int i = 0; i < day; i++) if (counts(i)) many++;
            return many;
        }

        int total() {
            int beside = 0, top = 0;
            for (int[] s : sentences) {
                if (s[1] == 1) top += s[0];
                else beside = Math.max(beside, s[0]);
            }
            return beside + top;
        }
    }

    static final class Credit {
        int person, n, told;
        Integer back;
    }

    static final class Law {
        int offence, day;
        String text;
    }

    static final class Hearing {
        int person, day, state, put, cause;
    }

    static final class Kept {
        int today, seed, spans, gaps, sentences, differ, doubles;
        final List<Case> cases = new ArrayList<>();
        final List<Credit> credits = new ArrayList<>();
        final List<Law> laws = new ArrayList<>();
        final List<int[]> papers = new ArrayList<>();
        final List<int[]> members = new ArrayList<>();
        final List<Hearing> hearings = new ArrayList<>();
        final int[][] table = new int[8][3];
        final int[] puts = new int[5];

        boolean isCase(int p) {
            return p >= 0 && p < cases.size();
        }

        int credit(int person, int known) {
            int sum = 0;
            for (Credit c : credits) {
                if (c.person == person && c.told <= known && (c.back == null || c.back > known)) sum += c.n;
            }
            return sum;
        }

        int why(int offence, int key) {
            int best = NONE;
            for (int i = 0; i < laws.size(); i++) {
                Law law = laws.get(i);
                if (KEYS.indexOf(tokens(law.text).get(0).s) != key || law.day > today) continue;
                if (law.offence != 8 && law.offence != offence) continue;
                if (best == NONE || law.day >= laws.get(best).day) best = i;
            }
            return best;
        }

        int rule(int offence, int key, int... told) {
            int text = why(offence, key);
            int v = key == 0 ? told[0] / 2 : key == 1 ? 7 * told[0] : key == 3 ? 28 : 0;
            if (text != NONE) {
                List<Token> row = tokens(laws.get(text).text);
                v = value(row.subList(1, row.size()), NAMES.get(key), told);
            }
            if (key == 0) return v < 0 ? 0 : v > 99999 ? 99999 : v;
            if (key == 1) return v < 0 ? 0 : v > 99 ? 99 : v;
            if (key == 3) return v < 1 ? 1 : v > 99 ? 99 : v;
            return v;
        }

        int first(int person) {
            Case c = cases.get(person);
            return rule(c.offence, 0, c.total(), credit(person, today), c.heard);
        }

        boolean due(int person, int day) {
            return cases.get(person).served(day) + credit(person, day) >= first(person);
        }

        int date(int person) {
            Case c = cases.get(person);
            if (c.state != 0) return NONE;
            int have = c.served(today) + credit(person, today);
            for (int day = today; day < today + 3000; day++) {
                if (have >= first(person)) return day;
                if (c.counts(day)) have++;
            }
            return NONE;
        }

        int risk(int person, int column) {
            int[] row = table[Integer.bitCount(cases.get(person).marks) & 7];
            return row[1] == 0 ? 0 : 100 * row[column] / row[1];
        }

        int set(int person) {
            for (int i = 0; i < hearings.size(); i++) {
                if (hearings.get(i).person == person && hearings.get(i).state == 0) return i;
            }
            return NONE;
        }

        int cause(int person) {
            Case c = cases.get(person);
            if (!due(person, today)) return 1;
            boolean report = false, notice = false;
            int ahead = rule(c.offence, 1, c.victims);
            for (int[] p : papers) {
                if (p[1] != person) continue;
                if ((p[0] == 1 || p[0] == 2) && today < p[3] + p[2]) report = true;
                if (p[0] == 3 && p[2] == today && p[3] + ahead <= today) notice = true;
            }
            return !report ? 2 : !notice ? 3 : 0;
        }

        int[] board(int people, int prison, int day) {
            int[] best = null;
            int least = 0;
            for (int code = 0; code < 1000; code++) {
                int[] three = {code / 100, code / 10 % 10, code % 10};
                if (three[0] >= three[1] || three[1] >= three[2] || three[2] >= members.size()) continue;
                int turns = 0;
                boolean good = true;
                for (int m : three) {
                    int[] member = members.get(m);
                    turns += member[3];
                    good &= (member[0] & 1 << day % 7) == 0 && (member[1] & 1 << prison) != 0 && (member[2] & people) == 0;
                }
                if (good && (best == null || turns < least)) {
                    best = three;
                    least = turns;
                }
            }
            return best;
        }

        void putOff(Hearing h, int cause) {
            h.day = today + rule(cases.get(h.person).offence, 3, cause);
            h.put++;
            h.cause = cause;
            puts[cause]++;
        }

        void day() {
            for (int prison = 0; prison < 6; prison++) {
                List<Hearing> list = new ArrayList<>();
                int people = 0;
                for (Hearing h : hearings) {
                    Case c = cases.get(h.person);
                    if (h.state != 0 || h.day != today || c.state != 0 || c.prison != prison) continue;
                    int cause = cause(h.person);
                    if (cause != 0) {
                        putOff(h, cause);
                    } else {
                        list.add(h);
                        people |= 1 << h.person;
                    }
                }
                if (list.isEmpty()) continue;
                int[] board = board(people, prison, today);
                if (board == null) {
                    for (Hearing h : list) putOff(h, 4);
                    continue;
                }
                for (int m : board) members.get(m)[3]++;
                for (Hearing h : list) {
                    Case c = cases.get(h.person);
                    int let = rule(c.offence, 2, risk(h.person, 0), c.heard, credit(h.person, today), c.served(today));
                    c.heard++;
                    h.state = 1;
                    if (let != 0) {
                        h.state = 2;
                        c.state = 1;
                        c.fled = false;
                        c.end(today);
                    }
                }
            }
            for (Hearing h : hearings) {
                if (h.state == 0 && h.day == today && cases.get(h.person).state != 0) h.state = 3;
            }
            today++;
        }

        void begin(int person) {
            cases.get(person).spans.add(new Span(today));
            spans++;
        }

        int many(int state) {
            int many = 0;
            for (Case c : cases) if (c.state == state) many++;
            return many;
        }
    }

    // ---- the model's face

    public static final class Model {
        private Kept k = new Kept();
        private List<ToIntFunction<Kept>> log = new ArrayList<>();
        private List<ToIntFunction<Kept>> image;
        private String tape = "";
        private final List<Integer> waiting = new ArrayList<>();
        private final Object[] sheets = new Object[4];

        private int does(ToIntFunction<Kept> act) {
            log.add(act);
            return act.applyAsInt(k);
        }

        private static Kept replay(List<ToIntFunction<Kept>> acts) {
            Kept kept = new Kept();
            for (ToIntFunction<Kept> act : acts) act.applyAsInt(kept);
            return kept;
        }

        private static boolean out(int v, int least, int most) {
            return v < least || v > most;
        }

        public int person(int offence, int prison, int marks, int victims) {
            if (out(offence, 0, 7) || out(prison, 0, 5) || out(marks, 0, 255) || out(victims, 0, 1)) return BAD;
            if (k.cases.size() == 12 || k.spans == 30) return FULL;
            return does(s -> {
                Case c = new Case();
                c.offence = offence;
                c.prison = prison;
                c.marks = marks;
                c.victims = victims;
                s.cases.add(c);
                s.begin(s.cases.size() - 1);
                return s.cases.size() - 1;
            });
        }

        public int told(int person, int what) {
            if (!k.isCase(person) || out(what, 0, 9)) return BAD;
            Case c = k.cases.get(person);
            int[] all = {c.offence, c.prison, c.marks, c.state, c.victims, c.total(), c.heard, k.risk(person, 0), k.risk(person, 2), k.set(person)};
            return all[what];
        }

        public int be(int person, int what, int v) {
            if (!k.isCase(person)) return BAD;
            int most = what == 1 ? 5 : what == 2 ? 255 : what == 4 ? 1 : -1;
            if (out(v, 0, most)) return BAD;
            return does(s -> {
                Case c = s.cases.get(person);
                int before = what == 1 ? c.prison : what == 2 ? c.marks : c.victims;
                if (what == 1) c.prison = v;
                if (what == 2) c.marks = v;
                if (what == 4) c.victims = v;
                return before;
            });
        }

        public int sentence(int person, int days, int top) {
            if (!k.isCase(person) || out(days, 1, 9999) || out(top, 0, 1)) return BAD;
            if (k.cases.get(person).state == 2) return NO;
            if (k.sentences == 24) return FULL;
            return does(s -> {
                s.cases.get(person).sentences.add(new int[] {days, top});
                return s.sentences++;
            });
        }

        public int gap(int person, int from, int to) {
            if (!k.isCase(person) || out(from, 0, 9999) || out(to, 0, 9999) || from >= to) return BAD;
            if (k.gaps == 20) return FULL;
            return does(s -> {
                s.cases.get(person).gaps.add(new int[] {from, to});
                return ++s.gaps;
            });
        }

        public int flee(int person) {
            if (!k.isCase(person)) return BAD;
            if (k.cases.get(person).state != 0 || k.cases.get(person).fled) return NO;
            return does(s -> {
                s.cases.get(person).fled = true;
                s.cases.get(person).end(s.today);
                return 1;
            });
        }

        public int caught(int person) {
            if (!k.isCase(person)) return BAD;
            if (k.cases.get(person).state != 0 || !k.cases.get(person).fled) return NO;
            if (k.spans == 30) return FULL;
            return does(s -> {
                s.cases.get(person).fled = false;
                s.begin(person);
                return 1;
            });
        }

        public int gone(int person) {
            if (!k.isCase(person)) return BAD;
            if (k.cases.get(person).state == 2) return NO;
            return does(s -> {
                s.cases.get(person).state = 2;
                s.cases.get(person).end(s.today);
                return 1;
            });
        }

        public int served(int person, int day) {
            return !k.isCase(person) || out(day, 0, 9999) ? BAD : k.cases.get(person).served(day);
        }

        public int credit(int person, int n) {
            if (!k.isCase(person) || out(n, -99, 99) || n == 0) return BAD;
            if (k.cases.get(person).state == 2) return NO;
            if (k.credits.size() == 40) return FULL;
            return does(s -> {
                Credit c = new Credit();
                c.person = person;
                c.n = n;
                c.told = s.today;
                s.credits.add(c);
                return s.credits.size() - 1;
            });
        }

        public int back(int credit) {
            if (out(credit, 0, k.credits.size() - 1)) return BAD;
            if (k.credits.get(credit).n > 0) return KIND;
            if (k.credits.get(credit).back != null) return NO;
            return does(s -> {
                s.credits.get(credit).back = s.today;
                return 1;
            });
        }

        public int credits(int person, int known) {
            return !k.isCase(person) || out(known, 0, 2999) ? BAD : k.credit(person, known);
        }

        public int due(int person, int day) {
            return !k.isCase(person) || out(day, 0, 9999) ? BAD : k.due(person, day) ? 1 : 0;
        }

        public int date(int person) {
            return k.isCase(person) ? k.date(person) : BAD;
        }

        public int feed(int a, int b, int c) {
            if (tape.length() > 84) return FULL;
            for (int v : new int[] {a, b, c}) {
                for (int i = 3; i >= 0; i--) tape += (char) (v >>> 8 * i & 255);
            }
            return tape.length();
        }

        public int trim(int n) {
            if (out(n, 0, tape.length())) return BAD;
            tape = tape.substring(0, n);
            return n;
        }

        public int text(int offence, int day) {
            String text = tape;
            tape = "";
            if (out(offence, 0, 8) || out(day, 0, 2999)) return BAD;
            int fault = fault(text);
            if (fault >= 0) return -100 - fault;
            if (k.laws.size() == 16) return FULL;
            return does(s -> {
                Law law = new Law();
                law.offence = offence;
                law.day = day;
                law.text = text;
                s.laws.add(law);
                return s.laws.size() - 1;
            });
        }

        public int of(int text, int what) {
            if (out(text, 0, k.laws.size() - 1) || out(what, 0, 3)) return BAD;
            Law law = k.laws.get(text);
            int words = 0;
            for (Token t : tokens(law.text)) if (t.word()) words++;
            return new int[] {KEYS.indexOf(tokens(law.text).get(0).s), law.offence, law.day, words - 1}[what];
        }

        public int why(int offence, int key) {
            return out(offence, 0, 7) || out(key, 0, 4) ? BAD : k.why(offence, key);
        }

        public int rules(int offence, int key, int a, int b, int c, int d) {
            return out(offence, 0, 7) || out(key, 0, 4) ? BAD : k.rule(offence, key, a, b, c, d);
        }

        public int paper(int kind, int person, int a) {
            if (out(kind, 0, 4) || !k.isCase(person)) return BAD;
            int[] least = {0, 1, 1, k.today, 0};
            int[] most = {0, 999, 999, 9999, 9};
            if (out(a, least[kind], most[kind])) return BAD;
            if (k.papers.size() == 40) return FULL;
            return does(s -> {
                s.papers.add(new int[] {kind, person, a, s.today});
                return s.papers.size() - 1;
            });
        }

        public int paperTold(int paper, int what) {
            if (out(paper, 0, k.papers.size() - 1) || out(what, 0, 4)) return BAD;
            int[] p = k.papers.get(paper);
            if (what < 4) return p[what];
            return p[0] == 1 || p[0] == 2 ? p[3] + p[2] - 1 : NONE;
        }

        public int as(int paper, int kind) {
            if (out(paper, 0, k.papers.size() - 1) || out(kind, 0, 4)) return BAD;
            int[] p = k.papers.get(paper);
            return kind == 0 || kind == p[0] || kind == 1 && p[0] == 2 ? p[2] : KIND;
        }

        public int member(int off, int prisons) {
            if (out(off, 0, 127) || out(prisons, 0, 63)) return BAD;
            if (k.members.size() == 9) return FULL;
            return does(s -> {
                s.members.add(new int[] {off, prisons, 0, 0});
                return s.members.size() - 1;
            });
        }

        public int conflict(int member, int person, int on) {
            if (out(member, 0, k.members.size() - 1) || !k.isCase(person) || out(on, 0, 1)) return BAD;
            return does(s -> {
                int[] m = s.members.get(member);
                int before = m[2] >> person & 1;
                m[2] += (on - before) << person;
                return before;
            });
        }

        public int is(int member, int what) {
            return out(member, 0, k.members.size() - 1) || out(what, 0, 3) ? BAD : k.members.get(member)[what];
        }

        public int board(int cases, int prison, int day) {
            if (cases < 0 || cases >= 1 << k.cases.size() || out(prison, 0, 5) || out(day, 0, 9999)) return BAD;
            int[] three = k.board(cases, prison, day);
            return three == null ? NONE : Integer.parseInt("" + three[0] + three[1] + three[2]);
        }

        public int hearing(int person, int day) {
            if (!k.isCase(person) || out(day, k.today, 2999)) return BAD;
            if (k.cases.get(person).state != 0 || k.set(person) != NONE) return NO;
            if (k.hearings.size() == 30) return FULL;
            return does(s -> {
                Hearing h = new Hearing();
                h.person = person;
                h.day = day;
                s.hearings.add(h);
                return s.hearings.size() - 1;
            });
        }

        public int heard(int hearing, int what) {
            if (out(hearing, 0, k.hearings.size() - 1) || out(what, 0, 4)) return BAD;
            Hearing h = k.hearings.get(hearing);
            return new int[] {h.person, h.day, h.state, h.put, h.cause}[what];
        }

        public int cause(int person) {
            if (!k.isCase(person)) return BAD;
            return k.cases.get(person).state != 0 ? NO : k.cause(person);
        }

        public int puts(int cause) {
            return out(cause, 1, 4) ? BAD : k.puts[cause];
        }

        public int recall(int person) {
            if (!k.isCase(person)) return BAD;
            if (k.cases.get(person).state != 1) return NO;
            if (k.spans == 30) return FULL;
            return does(s -> {
                s.cases.get(person).state = 0;
                s.begin(person);
                return 1;
            });
        }

        public int unwind(int hearing) {
            if (out(hearing, 0, k.hearings.size() - 1)) return BAD;
            Hearing h = k.hearings.get(hearing);
            Case c = k.cases.get(h.person);
            if (h.state != 2 || c.state != 1) return NO;
            for (int i = hearing + 1; i < k.hearings.size(); i++) {
                if (k.hearings.get(i).person == h.person && k.hearings.get(i).state == 2) return NO;
            }
            boolean on = k.rule(c.offence, 4, k.today - h.day) != 0;
            if (!on && k.spans == 30) return FULL;
            return does(s -> {
                Hearing mine = s.hearings.get(hearing);
                Case its = s.cases.get(mine.person);
                mine.state = 3;
                its.state = 0;
                if (on) its.spans.get(its.spans.size() - 1).to = null;
                else s.begin(mine.person);
                return on ? 1 : 0;
            });
        }

        public int run(int n) {
            if (out(n, 1, 60)) return BAD;
            if (k.today + n > 2999) return FULL;
            return does(s -> {
                for (int i = 0; i < n; i++) s.day();
                return s.today;
            });
        }

        public int table(int row, int what, int v) {
            if (out(row, 0, 7) || out(what, 0, 2) || out(v, 0, 9999)) return BAD;
            return does(s -> {
                int before = s.table[row][what];
                s.table[row][what] = v;
                return before;
            });
        }

        public int like(int person, int what) {
            if (!k.isCase(person) || out(what, 0, 2)) return BAD;
            int all = 0, let = 0;
            Case mine = k.cases.get(person);
            for (Hearing h : k.hearings) {
                Case c = k.cases.get(h.person);
                if (c == mine || c.offence != mine.offence || Integer.bitCount(c.marks ^ mine.marks) > 1) continue;
                if (h.state == 1 || h.state == 2) all++;
                if (h.state == 2) let++;
            }
            return what == 0 ? all : what == 1 ? let : all == 0 ? NONE : 100 * let / all;
        }

        public int twice(int one, int other) {
            if (out(one, 0, 1) || out(other, 0, 1)) return BAD;
            if (k.doubles == 20) return FULL;
            return does(s -> {
                s.differ += one ^ other;
                return ++s.doubles;
            });
        }

        public int spread() {
            return k.doubles == 0 ? NONE : 100 * k.differ / k.doubles;
        }

        public int seed(int v) {
            if (out(v, 0, 65535)) return BAD;
            return does(s -> {
                int before = s.seed;
                s.seed = v;
                return before;
            });
        }

        public int draw() {
            if (k.members.size() < 6) return NO;
            return does(s -> {
                List<Integer> left = new ArrayList<>();
                for (int i = 0; i < s.members.size(); i++) left.add(i);
                int answer = 0;
                for (int i = 0; i < 6; i++) {
                    s.seed = (int) ((25173L * s.seed + 13849L) % 65536L);
                    int member = left.remove(s.seed % left.size());
                    answer += (1 << member) * (i < 3 ? 1 : 512);
                }
                return answer;
            });
        }

        private static int length(Object sheet) {
            return java.lang.reflect.Array.getLength(sheet);
        }

        public int sheet(int sheet, int sort, int n) {
            if (out(sheet, 0, 3) || out(sort, -1, 2)) return BAD;
            if (sort == -1) {
                sheets[sheet] = null;
                return 0;
            }
            if (n > 24) return BAD;
            if (n < 0) return SIZE;
            sheets[sheet] = sort == 0 ? new byte[n] : sort == 1 ? (Object) new short[n] : new long[n];
            return n;
        }

        public int add(int sheet, int place, int v) {
            if (out(sheet, 0, 3)) return BAD;
            Object s = sheets[sheet];
            if (s == null) return NOTHING;
            if (out(place, 0, length(s) - 1)) return INDEX;
            if (s instanceof byte[]) return ((byte[]) s)[place] += v;
            if (s instanceof short[]) return ((short[]) s)[place] += v;
            return (int) (((long[]) s)[place] += v);
        }

        public int copy(int from, int place, int to, int at, int many) {
            if (out(from, 0, 3) || out(to, 0, 3)) return BAD;
            try {
                System.arraycopy(sheets[from], place, sheets[to], at, many);
                return many;
            } catch (NullPointerException e) {
                return NOTHING;
            } catch (ArrayStoreException e) {
                return KIND;
            } catch (IndexOutOfBoundsException e) {
                return INDEX;
            }
        }

        public int same(int place, int v) {
            if (place < 0) return BAD;
            int many = 0;
            for (Object s : sheets) {
                if (s == null || place >= length(s)) continue;
                if (s instanceof byte[] && ((byte[]) s)[place] == (byte) v) many++;
                if (s instanceof short[] && ((short[]) s)[place] == (short) v) many++;
                if (s instanceof long[] && ((long[]) s)[place] == v) many++;
            }
            return many;
        }

        public int tell(int v) {
            if (waiting.size() == 60) return FULL;
            waiting.add(v);
            return waiting.size();
        }

        /** What a check of n days would want to be told; none without an image. */
        List<Integer> daysTold(int n) {
            List<Integer> row = new ArrayList<>();
            if (image == null) return row;
            Kept kept = replay(image);
            for (int i = 0; i < n; i++) {
                kept.day();
                int sum = 0;
                for (Case c : kept.cases) sum += c.served(kept.today);
                row.add(sum);
                row.add(kept.many(1));
            }
            return row;
        }

        public int check(int n) {
            List<Integer> said = new ArrayList<>(waiting);
            waiting.clear();
            if (out(n, 1, 30)) return BAD;
            if (image == null) return NO;
            List<Integer> want = daysTold(n);
            if (said.equals(want)) return 0;
            int right = 0;
            while (right < said.size() && right < want.size() && said.get(right).equals(want.get(right))) right++;
            return 1 + right;
        }

        public int keep() {
            image = new ArrayList<>(log);
            return k.today;
        }

        public int restore() {
            if (image == null) return NO;
            k = replay(image);
            log = new ArrayList<>(image);
            return k.today;
        }

        public int count(int what) {
            int set = 0;
            for (Hearing h : k.hearings) if (h.state == 0) set++;
            int[] all = {k.cases.size(), k.many(0), k.many(1), k.many(2), k.sentences, k.spans, k.gaps, k.credits.size(), k.laws.size(),
                k.papers.size(), k.members.size(), k.hearings.size(), set, k.doubles, waiting.size(), tape.length(), k.today, k.seed};
            return out(what, 0, 17) ? BAD : all[what];
        }
    }

    // ---- runs of drawn calls

    static final Map<String, Method> CLASS = methods(HearingBoards.class);
    static final Map<String, Method> MODEL = methods(Model.class);
    static final Map<String, Integer> SEEN = new TreeMap<>();
    static int wrong = 0;

    static Map<String, Method> methods(Class<?> of) {
        Map<String, Method> map = new TreeMap<>();
        for (Method m : of.getDeclaredMethods()) {
            if (java.lang.reflect.Modifier.isPublic(m.getModifiers())) map.put(m.getName(), m);
        }
        return map;
    }

    static final class Run {
        final Random random;
        final HearingBoards boards = new HearingBoards();
        final Model model = new Model();
        final StringBuilder story = new StringBuilder();
        final int number;
        int calls;
        boolean broken;

        Run(int number) {
            this.number = number;
            random = new Random(7919L * number + 17);
        }

        int call(String name, int... args) {
            if (calls == 512 || broken) return 0;
            calls++;
            Object[] boxed = Arrays.stream(args).boxed().toArray();
            try {
                int want = (Integer) MODEL.get(name).invoke(model, boxed);
                int got = (Integer) CLASS.get(name).invoke(boards, boxed);
                story.append(name).append(Arrays.toString(args)).append(" = ").append(got).append('\n');
                SEEN.merge(name + " " + (want <= -1000000000 ? "" + want : want < -99 ? "fault" : want == 0 ? "0" : want == 1 ? "1" : "more"), 1, Integer::sum);
                if (got != want) {
                    broken = true;
                    wrong++;
                    if (wrong < 4) System.out.println("run " + number + ":\n" + story + "due is " + want);
                }
                return got;
            } catch (ReflectiveOperationException e) {
                throw new IllegalStateException(name + Arrays.toString(args) + "\n" + story, e);
            }
        }

        int draw(int least, int most) {
            return least + random.nextInt(most - least + 1);
        }

        boolean chance(int hundredths) {
            return random.nextInt(100) < hundredths;
        }

        /** Mostly what is asked for, now and then its neighbours outside, or anything. */
        int near(int least, int most) {
            if (chance(94)) return most < least ? least : draw(least, most);
            int[] odd = {least - 1, most + 1, -1, 0, Integer.MIN_VALUE, Integer.MAX_VALUE, random.nextInt()};
            return odd[random.nextInt(odd.length)];
        }

        int row(int what) {
            return near(0, Math.max(0, model.count(what) - 1));
        }

        /** Each run keeps to a few kinds of calls, so that it gets deep into what they do together. */
        void go(int style) {
            int members = style == 1 ? 9 : draw(0, 9);
            for (int i = 0; i < members; i++) call("member", chance(60) ? 0 : near(0, 127), chance(60) ? 63 : near(0, 63));
            for (int i = draw(1, 7); i > 0; i--) act("person");
            if (style == 1) easeTheLaw();
            int length = draw(100, 512);
            List<String> names = new ArrayList<>(CLASS.keySet());
            java.util.Collections.shuffle(names, random);
            names = names.subList(0, style == 0 ? names.size() : draw(4, 20));
            if (style == 3) names = List.of("sheet", "add", "add", "copy", "copy", "same");
            int prepares = style == 1 ? 30 : draw(0, 12);
            for (int i = 0; i < 4 * 512 && calls < length && !broken; i++) {
                int pick = random.nextInt(100);
                if (pick < 5) enact();
                else if (pick < 5 + prepares) prepare();
                else if (pick < 8 + prepares) tellDays();
                else act(names.get(random.nextInt(names.size())));
            }
        }

        /** Texts under which hearings are soon held, and many end with a release. */
        void easeTheLaw() {
            String[] texts = {"first t/9", "notice v", "let r<60", "again w/2", chance(50) ? "unwind d<4" : "unwind 0"};
            for (String text : texts) {
                if (chance(85)) enact(text, 8, 0);
            }
        }

        void write(String text) {
            for (int i = 0; i < text.length(); i += 12) {
                int[] v = new int[3];
                for (int j = 0; j < 12; j++) {
                    int b = i + j < text.length() ? text.charAt(i + j) : 0;
                    v[j / 4] = v[j / 4] << 8 | b;
                }
                call("feed", v[0], v[1], v[2]);
            }
        }

        void enact() {
            if (chance(90)) call("trim", 0);
            String text = chance(50) ? easyText() : anyText();
            if (chance(12)) text = spoiled(text);
            if (text.length() > 96) text = text.substring(0, 96);
            enact(text, chance(40) ? 8 : near(0, 8), chance(70) ? draw(0, model.count(16)) : near(0, 2999));
        }

        void enact(String text, int offence, int day) {
            write(text);
            call("trim", text.length());
            call("text", offence, day);
        }

        String easyText() {
            String[] texts = {"first 0", "first t/3", "first c+t", "first h*5", "first t/2-c", "notice 0", "notice v*3", "notice 2",
                "let 1", "let r<40", "let h", "let s>9|h>1", "let c+1", "let 0-1", "again 1", "again w", "again w*2+1", "again 0-5",
                "again 200", "unwind 1", "unwind d<5", "unwind 0", "unwind d/3=1", "first 9999*99", "notice 0-1", "notice 999"};
            return texts[random.nextInt(texts.length)];
        }

        String blanks() {
            return chance(85) ? "" : chance(70) ? " " : "  ";
        }

        String anyText() {
            int key = random.nextInt(5);
            String e = expression(0, NAMES.get(key), draw(0, 5));
            return blanks() + KEYS.get(key) + (chance(90) ? " " : "") + blanks() + e + blanks();
        }

        String expression(int level, String names, int size) {
            if (level == 5) return part(names, size);
            String[] signs = {"|", "&", "<=>", "+-", "*/"};
            String e = expression(level + 1, names, size);
            int more = size == 0 ? 0 : chance(75) ? 0 : level == 2 ? 1 : draw(1, 2);
            for (int i = 0; i < more; i++) {
                e += blanks() + signs[level].charAt(random.nextInt(signs[level].length())) + blanks() + expression(level + 1, names, size - 1);
            }
            return e;
        }

        String part(String names, int size) {
            int pick = random.nextInt(10);
            if (size > 0 && pick < 2) return "!" + blanks() + part(names, chance(80) ? size : size - 1);
            if (size > 0 && pick < 4) return "(" + blanks() + expression(0, names, chance(50) ? size : size - 1) + blanks() + ")";
            if (pick < 7) return "" + names.charAt(random.nextInt(names.length()));
            return chance(70) ? "" + draw(0, 30) : chance(97) ? String.format("%04d", draw(0, 9999)) : "" + draw(10000, 99999);
        }

        String spoiled(String text) {
            int at = random.nextInt(text.length() + 1);
            String odd = " !()+-*/<=>&|09tchvrswdz" + (char) 200 + (char) 0 + "A";
            String sign = "" + odd.charAt(random.nextInt(odd.length()));
            if (chance(30)) return text.substring(0, at) + text.substring(Math.min(text.length(), at + 1));
            if (chance(50)) return text.substring(0, at) + sign + text.substring(Math.min(text.length(), at + 1));
            if (chance(20)) return text.substring(0, at) + "((((((((".substring(draw(0, 7)) + text.substring(at);
            return text.substring(0, at) + sign + text.substring(at);
        }

        /** A case with its papers, its hearing and the days up to it, so that many get as far as a board. */
        void prepare() {
            int person = row(0);
            if (model.told(person, 3) == 1 && chance(60)) afterRelease(person);
            if (model.count(9) > 36 || model.count(11) > 28) call("restore");
            int today = model.count(16);
            int ahead = chance(60) ? draw(0, 3) : draw(4, 12);
            int set = model.told(person, 9);
            int day = set < 0 ? today + ahead : model.heard(set, 1);
            if (chance(90)) call("paper", draw(1, 2), person, chance(80) ? draw(60, 99) : draw(1, ahead + 1));
            if (chance(90)) call("paper", 3, person, day);
            if (set < 0) call("hearing", person, chance(90) ? day : near(today, 2999));
            if (chance(40)) return;
            call("run", Math.max(1, Math.min(60, day - today + 1)));
            if (chance(50)) call("told", person, 3);
            if (chance(40)) call("run", draw(1, 9));
        }

        void afterRelease(int person) {
            if (chance(40)) call("recall", person);
            else for (int i = model.count(11) - 1; i >= 0; i--) call("unwind", i);
        }

        void tellDays() {
            int n = near(1, 30);
            if (chance(80)) call("check", 31);
            List<Integer> row = model.daysTold(n >= 1 && n <= 30 ? n : 3);
            int most = chance(70) ? row.size() : draw(0, row.size());
            for (int i = 0; i < most && i < 60; i++) call("tell", chance(99) ? row.get(i) : row.get(i) + draw(-1, 1));
            if (chance(15)) call("tell", draw(0, 3));
            call("check", n);
        }

        void act(String name) {
            int today = model.count(16);
            switch (name) {
                case "person": call(name, near(0, chance(50) ? 1 : 7), near(0, chance(50) ? 1 : 5), near(0, chance(70) ? 7 : 255), near(0, 1)); break;
                case "told": call(name, row(0), near(0, 9)); break;
                case "be": be(); break;
                case "sentence": call(name, row(0), chance(70) ? draw(1, 30) : near(1, 9999), near(0, 1)); break;
                case "gap": gap(); break;
                case "flee": if (chance(60)) call(name, row(0)); break;
                case "gone": if (chance(25)) call(name, row(0)); break;
                case "caught": case "date": case "cause": case "recall": call(name, row(0)); break;
                case "served": case "due": call(name, row(0), chance(70) ? draw(0, today + 40) : near(0, 9999)); break;
                case "credit": call(name, row(0), chance(60) ? draw(-9, 9) : near(-99, 99)); break;
                case "back": call(name, row(7)); break;
                case "credits": call(name, row(0), chance(70) ? draw(0, today) : near(0, 2999)); break;
                case "feed": if (chance(40)) call(name, random.nextInt(), random.nextInt(), random.nextInt()); break;
                case "trim": call(name, near(0, model.count(15))); break;
                case "text": call(name, near(0, 8), near(0, 2999)); break;
                case "of": call(name, row(8), near(0, 3)); break;
                case "why": call(name, near(0, 7), near(0, 4)); break;
                case "rules": call(name, near(0, 7), near(0, 4), near(-9, 99), near(-9, 99), near(-9, 99), near(-9, 99)); break;
                case "paper": paper(); break;
                case "paperTold": call(name, row(9), near(0, 4)); break;
                case "as": call(name, row(9), near(0, 4)); break;
                case "member": if (chance(30)) call(name, near(0, 127), near(0, 63)); break;
                case "conflict": call(name, row(10), row(0), near(0, 1)); break;
                case "is": call(name, row(10), near(0, 3)); break;
                case "board": call(name, near(0, (1 << model.count(0)) - 1), near(0, 5), near(0, 9999)); break;
                case "hearing": call(name, row(0), chance(80) ? today + draw(0, 5) : near(today, 2999)); break;
                case "heard": call(name, row(11), near(0, 4)); break;
                case "puts": call(name, near(1, 4)); break;
                case "unwind": call(name, row(11)); break;
                case "run": call(name, chance(80) ? draw(1, 7) : near(1, 60)); break;
                case "table": call(name, near(0, chance(50) ? 2 : 7), near(0, 2), chance(60) ? draw(0, 20) : near(0, 9999)); break;
                case "like": call(name, row(0), near(0, 2)); break;
                case "twice": call(name, near(0, 1), near(0, 1)); break;
                case "seed": call(name, near(0, 65535)); break;
                case "sheet": call(name, near(0, 3), near(-1, 2), near(0, chance(70) ? 5 : 24)); break;
                case "add": call(name, near(0, 3), near(0, 4), chance(50) ? draw(-300, 300) : random.nextInt()); break;
                case "copy": call(name, near(0, 3), near(0, 4), near(0, 3), near(0, 4), near(0, 4)); break;
                case "same": call(name, near(0, 4), chance(70) ? 0 : draw(-300, 300)); break;
                case "tell": call(name, near(0, 99)); break;
                case "check": call(name, near(1, 30)); break;
                case "restore": if (chance(30)) call(name); break;
                case "count": call(name, near(0, 17)); break;
                default: call(name);
            }
        }

        void be() {
            int what = near(0, 5);
            call("be", row(0), what, near(0, what == 1 ? 5 : what == 2 ? (chance(50) ? 7 : 255) : 1));
        }

        void gap() {
            int from = chance(70) ? draw(0, model.count(16) + 20) : near(0, 9999);
            call("gap", row(0), from, chance(80) ? Math.min(9999, from / 2 * 2 + draw(0, 15)) : near(0, 9999));
        }

        void paper() {
            int kind = near(0, 4);
            int today = model.count(16);
            int a = kind == 3 ? (chance(80) ? today + draw(0, 9) : near(today, 9999)) : kind == 1 || kind == 2 ? near(1, 999) : kind == 4 ? near(0, 9) : near(0, 0);
            call("paper", kind, row(0), a);
        }

        /** Days close to the last one: images there are checked beyond it. */
        void late() {
            for (int i = 0; i < 49; i++) call("run", 60);
            call("run", draw(1, 59));
        }
    }

    public static void main(String[] args) {
        int runs = args.length > 0 ? Integer.parseInt(args[0]) : 1200;
        if (!CLASS.keySet().equals(MODEL.keySet())) {
            System.out.println("the model's methods are not those of the class");
            System.exit(1);
        }
        long calls = 0;
        for (int i = 0; i < runs; i++) {
            Run run = new Run(i);
            if (i % 8 == 7) run.late();
            run.go(i % 13 == 12 ? 3 : i % 3);
            calls += run.calls;
        }
        if (args.length > 1) SEEN.forEach((what, many) -> System.out.println(what + ": " + many));
        System.out.println(runs + " runs, " + calls + " calls, " + wrong + " runs not as the model");
        if (wrong != 0) System.exit(1);
    }
}
