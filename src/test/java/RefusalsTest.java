import java.lang.reflect.Method;
import java.lang.reflect.Modifier;
import java.util.ArrayList;
import java.util.Arrays;
import java.util.List;
import java.util.Random;
import java.util.Set;
import java.util.TreeSet;

/**
 * Drawn calls, with numbers at and beyond the limits, on objects in which much has happened: each that is refused must
 * answer what stands with its promise, and leave the object as one that the other calls alone have made.
 */
public final class RefusalsTest extends Edges {
    private static final int[] NUMBERS = {LEAST, -100, -99, -2, -1, 0, 0, 0, 1, 1, 1, 2, 2, 3, 3, 4, 5, 6, 7, 8, 9, 12, 13, 14, 20, 24, 25, 30, 31,
        60, 61, 63, 64, 96, 127, 128, 255, 256, 999, 1000, 2999, 3000, 9999, 10000, 65535, 65536, MOST};

    /** What a call may be refused with; -100 stands for the places of faults. */
    private static List<Integer> refusalsOf(String name) {
        switch (name) {
            case "person": case "gap": case "paper": case "member": case "twice": case "run": return List.of(BAD, FULL);
            case "sentence": case "credit": case "caught": case "hearing": case "recall": case "unwind": return List.of(BAD, NO, FULL);
            case "flee": case "gone": case "cause": case "check": return List.of(BAD, NO);
            case "back": return List.of(BAD, KIND, NO);
            case "text": return List.of(BAD, -100, FULL);
            case "feed": case "tell": return List.of(FULL);
            case "draw": case "restore": return List.of(NO);
            case "date": case "why": case "board": case "like": case "told": case "paperTold": return List.of(BAD, NONE);
            case "spread": return List.of(NONE);
            case "as": return List.of(BAD, KIND);
            case "sheet": return List.of(BAD, SIZE);
            case "add": return List.of(BAD, NOTHING, INDEX);
            case "copy": return List.of(BAD, NOTHING, KIND, INDEX);
            case "keep": return List.of();
            default: return List.of(BAD);
        }
    }

    private static boolean isRefusal(String name, int answer) {
        return answer <= BAD && answer >= SIZE || name.equals("text") && answer <= -100;
    }

    private static final class Call {
        final Method method;
        final Object[] args;

        Call(Method method, Object[] args) {
            this.method = method;
            this.args = args;
        }

        int on(HearingBoards x) {
            try {
                return (Integer) method.invoke(x, args);
            } catch (ReflectiveOperationException e) {
                throw new IllegalStateException(method.getName() + Arrays.toString(args), e);
            }
        }
    }

    private static List<Method> face() {
        List<Method> face = new ArrayList<>();
        for (Method m : HearingBoards.class.getDeclaredMethods()) if (Modifier.isPublic(m.getModifiers())) face.add(m);
        face.sort((a, b) -> a.getName().compareTo(b.getName()));
        return face;
    }

    private static HearingBoards full() {
        HearingBoards x = fillAll(new HearingBoards());
        x.keep();
        x.sheet(1, 1, 24);
        until(60, WAITING, x, y -> y.tell(y.count(WAITING)));
        return feed(x, "let r" + " ".repeat(91));
    }

    private static HearingBoards made(boolean full, List<Call> taken) {
        HearingBoards x = full ? full() : rich();
        for (Call call : taken) call.on(x);
        return x;
    }

    private static void drawn(int seed, Set<String> seen) {
        Random random = new Random(seed);
        boolean full = seed % 2 == 1;
        List<Method> face = face();
        List<Call> taken = new ArrayList<>();
        for (int i = 0; i < 120; i++) {
            Method m = face.get(random.nextInt(face.size()));
            Object[] args = new Object[m.getParameterCount()];
            for (int j = 0; j < args.length; j++) args[j] = NUMBERS[random.nextInt(NUMBERS.length)];
            Call call = new Call(m, args);
            HearingBoards x = made(full, taken);
            int answer = call.on(x);
            if (!isRefusal(m.getName(), answer)) {
                taken.add(call);
                continue;
            }
            int kind = m.getName().equals("text") && answer <= -100 && answer > BAD + 1000000 ? -100 : answer;
            due(refusalsOf(m.getName()).contains(kind) ? 1 : 0, 1);
            seen.add(m.getName() + " " + kind);
            HearingBoards other = made(full, taken);
            if (m.getName().equals("text")) other.trim(0);
            if (m.getName().equals("check")) other.check(1);
            alike(x, other);
            if (m.getName().equals("text") || m.getName().equals("check")) taken.add(call);
        }
    }

    public static void main(String[] args) {
        terms("A call that is refused answers one of BAD, NO, FULL, or a FINDING, of several the one that stands first with it, and changes nothing (but the tape and the numbers that wait, where told)");
        Set<String> seen = new TreeSet<>();
        for (int seed = 0; seed < 40; seed++) drawn(seed, seen);
        System.out.println(seen.size() + " refusals (a call and its answer) were seen");
        finish(1, 0);
    }
}
