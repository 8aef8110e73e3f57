import com.sun.management.ThreadMXBean;
import java.lang.management.ManagementFactory;
import java.lang.reflect.Array;
import java.lang.reflect.Field;
import java.lang.reflect.Method;
import java.lang.reflect.Modifier;
import java.util.ArrayDeque;
import java.util.Collections;
import java.util.Deque;
import java.util.IdentityHashMap;
import java.util.LinkedHashMap;
import java.util.Map;
import java.util.Set;
import java.util.function.ToIntFunction;

/** All calls of a run live in one room: an object is small from the start, and only texts that are good make more. */
public final class RoomTest {
    private static final int CALLS = 512, LEAST_BYTES_OF_AN_OBJECT = 16;
    private static final ThreadMXBean THREAD = (ThreadMXBean) ManagementFactory.getThreadMXBean();

    private static int wrong;

    private static void must(boolean good, String what) {
        if (good) return;
        wrong++;
        System.out.println(what);
    }

    // ---- what an object is

    /** {objects and arrays, their fields and elements} that can be reached from an object. */
    private static int[] sizeOf(Object root) throws IllegalAccessException {
        Set<Object> seen = Collections.newSetFromMap(new IdentityHashMap<>());
        Deque<Object> left = new ArrayDeque<>();
        left.add(root);
        int cells = 0;
        while (!left.isEmpty()) {
            Object next = left.poll();
            if (!seen.add(next)) continue;
            cells += next.getClass().isArray() ? elements(next, left) : fields(next, left);
        }
        return new int[] {seen.size(), cells};
    }

    private static int elements(Object array, Deque<Object> left) {
        int length = Array.getLength(array);
        for (int i = 0; i < length && !array.getClass().getComponentType().isPrimitive(); i++) {
            if (Array.get(array, i) != null) left.add(Array.get(array, i));
        }
        return length;
    }

    private static int fields(Object object, Deque<Object> left) throws IllegalAccessException {
        int many = 0;
        for (Field field : object.getClass().getDeclaredFields()) {
            if (Modifier.isStatic(field.getModifiers())) continue;
            many++;
            field.setAccessible(true);
            if (!field.getType().isPrimitive() && field.get(object) != null) left.add(field.get(object));
        }
        return many;
    }

    private static void objectIsSmall() throws IllegalAccessException {
        int[] fresh = sizeOf(new HearingBoards());
        must(fresh[0] <= 150 && fresh[1] <= 4000, "a new object is " + fresh[0] + " objects with " + fresh[1] + " fields and elements");
        HearingBoards x = new HearingBoards();
        for (int i = 0; i < 16; i++) Edges.law(x, "let " + "1+".repeat(45) + "1");
        Edges.fillAll(x);
        x.keep();
        x.check(30);
        x.restore();
        int[] full = sizeOf(x);
        int texts = x.count(Edges.TEXTS);
        must(texts == 16, "there are " + texts + " texts");
        must(full[0] <= fresh[0] + 2 * texts && full[1] <= fresh[1] + 101 * texts, "a full one is " + full[0] + " objects with " + full[1]);
        System.out.println("new: " + fresh[0] + " objects, " + fresh[1] + " cells; full: " + full[0] + " objects, " + full[1] + " cells");
    }

    // ---- what a call makes

    private static long bytesOf(HearingBoards x, ToIntFunction<HearingBoards> call) {
        long before = THREAD.getCurrentThreadAllocatedBytes();
        for (int i = 0; i < CALLS; i++) call.applyAsInt(x);
        return THREAD.getCurrentThreadAllocatedBytes() - before;
    }

    private static Map<String, ToIntFunction<HearingBoards>> casesAndTexts() {
        Map<String, ToIntFunction<HearingBoards>> calls = new LinkedHashMap<>();
        calls.put("person", x -> x.person(0, 0, 0, 0));
        calls.put("told", x -> x.told(0, 7));
        calls.put("be", x -> x.be(1, 2, 3));
        calls.put("sentence", x -> x.sentence(1, 9, 1));
        calls.put("gap", x -> x.gap(1, 3, 9));
        calls.put("flee", x -> x.flee(1));
        calls.put("caught", x -> x.caught(1));
        calls.put("served", x -> x.served(1, 9999));
        calls.put("credit", x -> x.credit(1, -9));
        calls.put("back", x -> x.back(1));
        calls.put("credits", x -> x.credits(1, 2999));
        calls.put("due", x -> x.due(1, 9999));
        calls.put("date", x -> x.date(1));
        calls.put("trim", x -> x.trim(0));
        calls.put("feed", x -> x.feed(0x6C657420, 0x31203120, 0));
        calls.put("text", x -> x.text(0, -1));
        calls.put("of", x -> x.of(0, 3));
        calls.put("why", x -> x.why(0, 2));
        calls.put("rules", x -> x.rules(0, 2, 1, 2, 3, 4));
        return calls;
    }

    private static Map<String, ToIntFunction<HearingBoards>> hearingsAndRows() {
        Map<String, ToIntFunction<HearingBoards>> calls = new LinkedHashMap<>();
        calls.put("paper", x -> x.paper(1, 1, 60));
        calls.put("paperTold", x -> x.paperTold(1, 4));
        calls.put("as", x -> x.as(2, 1));
        calls.put("member", x -> x.member(0, 63));
        calls.put("conflict", x -> x.conflict(0, 1, 1));
        calls.put("is", x -> x.is(0, 3));
        calls.put("board", x -> x.board(1, 0, 9999));
        calls.put("hearing", x -> x.hearing(1, x.count(16)));
        calls.put("heard", x -> x.heard(0, 4));
        calls.put("cause", x -> x.cause(1));
        calls.put("puts", x -> x.puts(4));
        calls.put("recall", x -> x.recall(0));
        calls.put("unwind", x -> x.unwind(0));
        calls.put("run", x -> x.run(1));
        calls.put("gone", x -> x.gone(1));
        calls.put("table", x -> x.table(7, 2, 9999));
        calls.put("like", x -> x.like(1, 2));
        calls.put("twice", x -> x.twice(0, 1));
        calls.put("spread", HearingBoards::spread);
        calls.put("seed", x -> x.seed(9));
        calls.put("draw", HearingBoards::draw);
        calls.put("sheet", x -> x.sheet(3, 2, 24));
        calls.put("add", x -> x.add(3, 23, 9));
        calls.put("copy", x -> x.copy(3, 0, 3, 1, 23));
        calls.put("same", x -> x.same(0, 1));
        calls.put("tell", x -> x.tell(1));
        calls.put("keep", HearingBoards::keep);
        calls.put("check", x -> x.check(30));
        calls.put("restore", HearingBoards::restore);
        calls.put("count", x -> x.count(12));
        return calls;
    }

    private static void callsMakeNothing() {
        Map<String, ToIntFunction<HearingBoards>> calls = casesAndTexts();
        calls.putAll(hearingsAndRows());
        for (Method m : HearingBoards.class.getDeclaredMethods()) {
            if (Modifier.isPublic(m.getModifiers())) must(calls.containsKey(m.getName()), m.getName() + " is not looked at");
        }
        HearingBoards warm = Edges.rich();
        for (ToIntFunction<HearingBoards> call : calls.values()) bytesOf(warm, call);
        HearingBoards x = Edges.rich();
        for (Map.Entry<String, ToIntFunction<HearingBoards>> call : calls.entrySet()) {
            long bytes = bytesOf(x, call.getValue());
            must(bytes < CALLS * LEAST_BYTES_OF_AN_OBJECT, call.getKey() + " makes " + bytes + " bytes in " + CALLS + " calls");
        }
    }

    public static void main(String[] args) throws IllegalAccessException {
        objectIsSmall();
        callsMakeNothing();
        System.out.println(wrong == 0 ? "the room is enough" : wrong + " things take too much room");
        if (wrong != 0) System.exit(1);
    }
}
