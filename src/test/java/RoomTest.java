import com.sun.management.ThreadMXBean;
import java.lang.management.ManagementFactory;
import java.lang.reflect.Array;
import java.lang.reflect.Field;
import java.lang.reflect.Modifier;
import java.util.ArrayDeque;
import java.util.Collections;
import java.util.Deque;
import java.util.IdentityHashMap;
import java.util.Set;

/** Rule 12 of LANGUAGE.md: all rows are made with the object, and no later call makes any. */
public final class RoomTest {
    private static final Check CHECK = new Check();
    private static final ThreadMXBean MADE = (ThreadMXBean) ManagementFactory.getThreadMXBean();
    private static final int CALLS = 512;
    private static final String TEXT = "*200\nA, TAD (5); TLS; KRB; ISZ A; X=A+1\nB, JMP I (A) / again\nCLA CLL";

    public static void main(String[] args) throws IllegalAccessException {
        oneObjectInTheRoom();
        noCallMakesAnything();
        CHECK.finish();
    }

    /** What is reached from the object: the same objects at first, behind open() and at the end. */
    private static void oneObjectInTheRoom() throws IllegalAccessException {
        LineMonitor m = new LineMonitor();
        Set<Object> atFirst = reachedFrom(m);
        long elements = 0;
        for (Object o : atFirst) {
            elements += sizeOf(o);
        }
        CHECK.due("some objects and arrays", atFirst.size() < 100 ? 1 : 0, 1);
        CHECK.due("some 100,000 fields and elements", elements < 100_000 ? 1 : 0, 1);
        m.open(8, 7, 1, 4);
        CHECK.due("new rows behind open", newIn(reachedFrom(m), atFirst), 0);
        useAll(m, Line.packed(TEXT, 0), Line.packed(TEXT, 20), Line.packed(TEXT, 40), Line.packed(TEXT, 60));
        CHECK.due("new rows behind all calls", newIn(reachedFrom(m), atFirst), 0);
    }

    private static int newIn(Set<Object> now, Set<Object> before) {
        int n = 0;
        for (Object o : now) {
            n += before.contains(o) ? 0 : 1;
        }
        return n;
    }

    private static Set<Object> reachedFrom(Object first) throws IllegalAccessException {
        Set<Object> reached = Collections.newSetFromMap(new IdentityHashMap<>());
        Deque<Object> open = new ArrayDeque<>();
        open.add(first);
        while (!open.isEmpty()) {
            Object o = open.remove();
            if (!reached.add(o)) {
                continue;
            }
            if (o instanceof Object[] row) {
                for (Object part : row) {
                    addIfThere(open, part);
                }
            } else if (!o.getClass().isArray()) {
                for (Field f : o.getClass().getDeclaredFields()) {
                    if (!Modifier.isStatic(f.getModifiers()) && !f.getType().isPrimitive()) {
                        f.setAccessible(true);
                        addIfThere(open, f.get(o));
                    }
                }
            }
        }
        return reached;
    }

    private static void addIfThere(Deque<Object> open, Object o) {
        if (o != null) {
            open.add(o);
        }
    }

    private static int sizeOf(Object o) {
        return o.getClass().isArray() ? Array.getLength(o) : o.getClass().getDeclaredFields().length;
    }

    /** Rounds, for what the Java machine itself makes at a line's first use is not the class's. */
    private static void noCallMakesAnything() {
        int[] a = Line.packed(TEXT, 0);
        int[] b = Line.packed(TEXT, 20);
        int[] c = Line.packed(TEXT, 40);
        int[] d = Line.packed(TEXT, 60);
        long least = Long.MAX_VALUE;
        for (int round = 0; round < 5; round++) {
            LineMonitor m = new LineMonitor();
            long before = MADE.getCurrentThreadAllocatedBytes();
            m.open(8, 7, 1, 4);
            useAll(m, a, b, c, d);
            least = Math.min(least, MADE.getCurrentThreadAllocatedBytes() - before);
        }
        CHECK.due("bytes that the calls made", least, 0);
    }

    private static void useAll(LineMonitor m, int[] a, int[] b, int[] c, int[] d) {
        for (int i = 0; i < CALLS / 32; i++) {
            int u = i & 7;
            m.feed(a[0], a[1], a[2], a[3], a[4]);
            m.feed(b[0], b[1], b[2], b[3], b[4]);
            m.feed(c[0], c[1], c[2], c[3], c[4]);
            m.feed(d[0], d[1], d[2], d[3], d[4]);
            m.end(i < 8 ? TEXT.length() : 70);
            m.assemble(u);
            m.fault(0);
            m.fault(1);
            m.poke(u, 4000, i);
            m.peek(u, 4000);
            m.store(u, 3, 5, i);
            m.block(u, 3, 5);
            m.switches(u, i);
            m.start(u, 0200);
            m.key(u, i);
            m.run(1000);
            m.about(u, i);
            m.letter(u, 0);
            m.waiting(u, 0);
            m.queued(u, 0);
            m.house(i);
            m.row(0);
            m.open(8, 7, 1, 4);
            m.poke(-1, i, i);
            m.run(-1);
            m.end(-1);
            m.digest();
        }
    }
}
