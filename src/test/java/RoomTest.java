import java.lang.management.ManagementFactory;
import java.lang.reflect.Array;
import java.lang.reflect.Field;
import java.lang.reflect.Modifier;
import java.util.ArrayDeque;
import java.util.IdentityHashMap;

/** All calls of one run share one room: what an object makes is counted, and no call may make anything. */
public final class RoomTest {
    /** The dearest call is the constructor; even a run of 512 of them must fit. */
    private static final int NEW_ONES = 512;
    private static final int OBJECTS = 600000;
    private static final int ELEMENTS = 7300000;

    private static int wrong = 0;
    private static long sink = 0;

    private static void hold(boolean holds, String what) {
        if (!holds) {
            wrong++;
            System.out.println("wrong: " + what);
        }
    }

    /** Objects and elements of a new object, the only ones that are ever made. */
    private static void newObject() throws IllegalAccessException {
        IdentityHashMap<Object, Boolean> met = new IdentityHashMap<>();
        ArrayDeque<Object> todo = new ArrayDeque<>();
        CellKeeper first = new CellKeeper();
        met.put(first, true);
        todo.add(first);
        long elements = 0;
        while (!todo.isEmpty()) {
            Object now = todo.remove();
            if (now.getClass().isArray()) {
                int length = Array.getLength(now);
                elements += length;
                for (int k = 0; k < length && !now.getClass().getComponentType().isPrimitive(); k++) note(Array.get(now, k), met, todo);
                continue;
            }
            for (Field f : now.getClass().getDeclaredFields()) {
                if (Modifier.isStatic(f.getModifiers())) continue;
                elements++;
                f.setAccessible(true);
                if (!f.getType().isPrimitive()) note(f.get(now), met, todo);
            }
        }
        System.out.println("a new object: " + met.size() + " objects and arrays, " + elements + " fields and elements");
        hold(met.size() * (long) NEW_ONES <= OBJECTS, "too many objects in a new one");
        hold(elements * NEW_ONES <= ELEMENTS, "too many elements in a new one");
    }

    private static void note(Object o, IdentityHashMap<Object, Boolean> met, ArrayDeque<Object> todo) {
        if (o != null && met.put(o, true) == null) todo.add(o);
    }

    private static CellKeeper full(int free) {
        CellKeeper x = new CellKeeper();
        x.open(0, 12, 12);
        x.block(0, 3, 8);
        for (int k = 0; k < 144; k++) {
            x.cell(0, k / 12, k % 12, k % 7 == 3 ? 3 : 1, 1 + (k * 7919) % (k % 5 == 0 ? 1000000 : 50));
            if (k >= free) x.hand(0, k / 12, k % 12, true);
        }
        return x;
    }

    private static void everyCall(CellKeeper x) {
        for (int k = 0; k < 12; k++) {
            sink += x.open(1, 12, 12) ? 1 : 0;
            sink += x.cell(1, k, k, 2, 0) ? 1 : 0;
            sink += x.giver(1, k, k, 5) ? 1 : 0;
            sink += x.givers(1, k, k) + x.part(1, k, k, 0) + x.kind(1, k, k) + x.number(1, k, k);
            sink += x.clear(1, k, k) ? 1 : 0;
            sink += x.tear(1, k, 3) ? 1 : 0;
            sink += x.block(1, k, k) + x.sound(0, k) + x.sum(0, k) + x.total(0, k, k);
            sink += x.secret(0, k, k) + x.kept(0, k, k) + x.thousandths(0, k, k);
            sink += x.least(0, k, k) + x.greatest(0, k, k) + x.safe(0, k, k) + x.unsafe(0);
            sink += x.witness(0, k, 11 - k, k % 2 == 0) + x.seen(k, k) + x.cut(true, k);
            sink += x.plan(0) + x.fewest(0) + x.cost(0) + x.round(0, 10 + k) + x.rounded(k, k);
            sink += x.give(0) + x.gift(0, k, k) + x.agree(0, k);
            sink += x.keep(0, k, k, true) ? 1 : 0;
            sink += x.hand(0, k, k, k % 2 == 0) ? 1 : 0;
            sink += x.rule(0, 3, k) ? 1 : 0;
            sink += x.status();
            sink += x.close(1) ? 1 : 0;
        }
    }

    private static void noCallMakesAnything() {
        com.sun.management.ThreadMXBean bean = (com.sun.management.ThreadMXBean) ManagementFactory.getThreadMXBean();
        long self = Thread.currentThread().getId();
        if (!bean.isThreadAllocatedMemorySupported()) return;
        bean.setThreadAllocatedMemoryEnabled(true);
        everyCall(full(4));
        CellKeeper x = full(6);
        CellKeeper y = full(100);
        long before = bean.getThreadAllocatedBytes(self);
        everyCall(x);
        everyCall(y);
        long made = bean.getThreadAllocatedBytes(self) - before;
        System.out.println("bytes made by 2 * 12 * 38 calls: " + made);
        hold(made < 4096, "calls make objects");
    }

    public static void main(String[] args) throws IllegalAccessException {
        newObject();
        noCallMakesAnything();
        System.out.println("RoomTest: " + wrong + " wrong" + (sink == 42 ? "." : ""));
        if (wrong != 0) System.exit(1);
    }
}
