import java.lang.reflect.Field;
import java.util.Arrays;
import java.util.Random;

/**
 * LANGUAGE.md, rule 7: no call may ever throw, for any arguments in any state. What is answered behind the 512th
 * call is free, so far behind it these tests ask only that there is an answer.
 */
public final class NeverThrowsTest {
    private static final int OBJECTS = 40;
    private static final int CALLS = 10000;
    private static final int[] EDGES = {
        Integer.MIN_VALUE, Integer.MIN_VALUE + 1, -65537, -65536, -32768, -2, -1, 0, 1, 2, 3, 4, 5, 6, 7, 8, 9, 15, 16,
        17, 18, 19, 31, 32, 39, 40, 63, 64, 199, 200, 255, 256, 257, 500, 501, 4095, 4096, 65535, 65536,
        Integer.MAX_VALUE - 1, Integer.MAX_VALUE};
    private static final String[] COUNTS_OF_A_PROCESS = {"steps", "faults", "calls", "returns"};

    public static void main(String[] args) throws ReflectiveOperationException {
        for (int seed = 0; seed < OBJECTS; seed++) {
            wildCalls(new Random(seed));
        }
        sayingsBeyondTheGreatestInt();
        countsOfAProcessBeyondTheGreatestInt();
        Check.finish();
    }

    private static void wildCalls(Random random) {
        RingWarden x = new RingWarden();
        String latest = "";
        try {
            for (int i = 0; i < CALLS; i++) {
                int method = random.nextInt(19);
                int[] a = arguments(random, method);
                latest = "call " + method + " with " + Arrays.toString(a);
                call(x, method, a);
            }
            Check.due("wild calls", true, true);
        } catch (RuntimeException thrown) {
            Check.due(latest + " threw " + thrown, true, false);
        }
    }

    private static int[] arguments(Random random, int method) {
        int[] a = new int[5];
        for (int i = 0; i < a.length; i++) {
            int kind = random.nextInt(8);
            a[i] = kind == 0 ? random.nextInt() : kind < 3 ? EDGES[random.nextInt(EDGES.length)] : random.nextInt(8);
        }
        if (method == 3 && random.nextInt(4) != 0) {
            a[2] = random.nextInt(26) << 27 | random.nextInt(1 << 27) & ~65504;
        }
        return a;
    }

    private static void call(RingWarden x, int method, int[] a) {
        switch (method) {
            case 0: x.segment(a[0], a[1]); break;
            case 1: x.brackets(a[0], a[1], a[2], a[3], a[4]); break;
            case 2: x.flags(a[0], a[1], a[2]); break;
            case 3: x.word(a[0], a[1], a[2]); break;
            case 4: x.define(a[0], a[1], a[2]); break;
            case 5: x.link(a[0], a[1], a[2], a[3]); break;
            case 6: x.start(a[0], a[1], a[2], a[3]); break;
            case 7: x.handler(a[0], a[1], a[2]); break;
            case 8: x.state(a[0], a[1]); break;
            case 9: x.pointer(a[0], a[1], a[2]); break;
            case 10: x.peek(a[0], a[1], a[2]); break;
            case 11: x.stored(a[0], a[1]); break;
            case 12: x.known(a[0], a[1]); break;
            case 13: x.may(a[0], a[1], a[2], a[3]); break;
            case 14: x.said(a[0]); break;
            case 15: x.sayings(); break;
            default: x.run(a[0], a[1]); break;
        }
    }

    /** To count so far takes 2^31 steps, some twenty seconds: so the count is set there. */
    private static void sayingsBeyondTheGreatestInt() throws ReflectiveOperationException {
        RingWarden x = looping(Orders.immediate(Orders.ADD, 1), Orders.own(Orders.SAY, 0));
        x.run(0, 500);
        Object spoken = field(RingWarden.class, "spoken").get(x);
        field(spoken.getClass(), "count").setInt(spoken, Integer.MAX_VALUE);
        try {
            Check.due("run with a full count of sayings", x.run(0, 500), 500);
        } catch (RuntimeException thrown) {
            Check.due("a saying beyond the greatest int threw " + thrown, true, false);
        }
        Check.due("said(0), as before", x.said(0), 1);
    }

    private static void countsOfAProcessBeyondTheGreatestInt() throws ReflectiveOperationException {
        RingWarden x = looping(Orders.own(Orders.CALL, 0));
        x.handler(0, 0, 0);
        Object process = ((Object[]) field(RingWarden.class, "processes").get(x))[0];
        for (String count : COUNTS_OF_A_PROCESS) {
            field(process.getClass(), count).setInt(process, Integer.MAX_VALUE);
        }
        try {
            Check.due("run with full counts", x.run(0, 500), 500);
        } catch (RuntimeException thrown) {
            Check.due("a count beyond the greatest int threw " + thrown, true, false);
        }
    }

    private static Field field(Class<?> holder, String name) throws ReflectiveOperationException {
        Field field = holder.getDeclaredField(name);
        field.setAccessible(true);
        return field;
    }

    /** Process 0, in ring 0, does some orders, goes back to the first one, and so on. */
    private static RingWarden looping(int... orders) {
        RingWarden x = new RingWarden();
        x.segment(1, orders.length + 1);
        x.flags(0, 0, 7);
        for (int k = 0; k < orders.length; k++) {
            x.word(0, k, orders[k]);
        }
        x.word(0, orders.length, Orders.own(Orders.GO, 0));
        x.start(0, 0, 0, 0);
        return x;
    }
}
