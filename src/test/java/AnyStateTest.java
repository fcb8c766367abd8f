import java.lang.reflect.Field;
import java.lang.reflect.InvocationTargetException;
import java.lang.reflect.Method;
import java.lang.reflect.Modifier;
import java.util.ArrayList;
import java.util.Arrays;
import java.util.Comparator;
import java.util.List;
import java.util.Random;

/**
 * Rule 7 of LANGUAGE.md: no call throws, for any arguments in any state. What the calls answer is not
 * asked here, for some of these states lie behind the 512 calls of which the document speaks.
 */
public final class AnyStateTest {
    private static final Check CHECK = new Check();
    private static final int[] ODD = {
        Integer.MIN_VALUE, Integer.MIN_VALUE + 1, -4097, -513, -1, 0, 1, 2, 7, 8, 10, 11, 12, 15, 16, 31, 32, 64,
        127, 128, 255, 256, 511, 512, 1000, 1001, 4095, 4096, 8000, Integer.MAX_VALUE - 1, Integer.MAX_VALUE
    };
    /** It types for ever: TLS; JMP back. */
    private static final int[] TYPING = {06046, 05200};
    private static final String[] COUNTS_OF_A_USER = {"printed", "steps"};
    private static final String[] COUNTS_OF_THE_HOUSE = {"steps", "ticks", "idle"};

    public static void main(String[] args) throws ReflectiveOperationException {
        oddArguments();
        countsBehindTheirEnd();
        CHECK.finish();
    }

    private static List<Method> face() {
        List<Method> calls = new ArrayList<>();
        for (Method m : LineMonitor.class.getDeclaredMethods()) {
            if (Modifier.isPublic(m.getModifiers())) {
                calls.add(m);
            }
        }
        // their order is the Java machine's affair, and the runs are to be the same ones each time
        calls.sort(Comparator.comparing(Method::getName));
        return calls;
    }

    private static void oddArguments() throws IllegalAccessException {
        List<Method> calls = face();
        Random chance = new Random(7);
        for (int run = 0; run < 40; run++) {
            LineMonitor m = new LineMonitor();
            if (run % 4 != 0) {
                m.open(1 + run % 8, 1 + run % 7, 1 + run % 5, 4 + run % 9);
            }
            for (int i = 0; i < 2000; i++) {
                call(m, calls.get(chance.nextInt(calls.size())), chance);
            }
        }
    }

    private static void call(LineMonitor m, Method method, Random chance) throws IllegalAccessException {
        Object[] args = new Object[method.getParameterCount()];
        for (int i = 0; i < args.length; i++) {
            args[i] = chance.nextInt(3) == 0 ? chance.nextInt(1 << 12) % 9 : ODD[chance.nextInt(ODD.length)];
        }
        try {
            method.invoke(m, args);
            CHECK.due(method.getName(), 1, 1);
        } catch (InvocationTargetException e) {
            CHECK.due(method.getName() + Arrays.toString(args) + " threw " + e.getCause(), 0, 1);
        }
    }

    /** Counts that only grow, as behind some million calls. */
    private static void countsBehindTheirEnd() throws ReflectiveOperationException {
        LineMonitor m = new LineMonitor();
        m.open(8, 7, 1, 4);
        for (int u = 0; u < 8; u++) {
            m.poke(u, 0200, TYPING[0]);
            m.poke(u, 0201, TYPING[1]);
            m.start(u, 0200);
        }
        m.run(100);
        setNearTheEnd(m);
        List<Method> calls = face();
        Random chance = new Random(8);
        for (int i = 0; i < 1000; i++) {
            try {
                m.run(i % 50);
                m.letter(i % 8, Integer.MAX_VALUE - i % 3);
                m.letter(i % 8, Integer.MIN_VALUE + i % 3);
                m.digest();
                CHECK.due("calls behind the counts' end", 1, 1);
            } catch (RuntimeException e) {
                CHECK.due("a call behind the counts' end threw " + e, 0, 1);
            }
            call(m, calls.get(chance.nextInt(calls.size())), chance);
        }
        CHECK.due("the steps went round", m.house(4) < 0 ? 1 : 0, 1);
        CHECK.due("the letters went round", m.about(0, 9) < 0 ? 1 : 0, 1);
    }

    private static void setNearTheEnd(LineMonitor m) throws ReflectiveOperationException {
        Object house = valueOf(m, "home");
        for (String count : COUNTS_OF_THE_HOUSE) {
            fieldOf(house, count).setInt(house, Integer.MAX_VALUE - 5);
        }
        for (Object user : (Object[]) valueOf(house, "users")) {
            for (String count : COUNTS_OF_A_USER) {
                fieldOf(user, count).setInt(user, Integer.MAX_VALUE - 5);
            }
        }
    }

    private static Object valueOf(Object o, String name) throws ReflectiveOperationException {
        return fieldOf(o, name).get(o);
    }

    private static Field fieldOf(Object o, String name) throws ReflectiveOperationException {
        Field f = o.getClass().getDeclaredField(name);
        f.setAccessible(true);
        return f;
    }
}
