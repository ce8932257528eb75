import java.lang.reflect.InvocationTargetException;
import java.lang.reflect.Method;
import java.util.ArrayList;
import java.util.Arrays;
import java.util.List;
import java.util.NoSuchElementException;
import java.util.function.ToLongFunction;

/** A call that is refused changes nothing, in any state; and no arguments make a call throw what is not promised. */
public final class RefusedTest {
    private static final Check C = new Check();
    private static final int LEAST = Integer.MIN_VALUE;
    private static final int MOST = Integer.MAX_VALUE;
    private static final int STATES = 5;
    private static final long THROWS = -77;
    private static final int[] EDGES = {LEAST, -2, -1, 0, 1, 4, 12, 30, 31, 60, 61, 101, 1000000, MOST};
    private static final long[] LONG_EDGES = {0, -1, Long.MIN_VALUE, Long.MAX_VALUE, 0x7374696B20302031L,
        0x0A207E7F1F80FF21L};

    record Call(String name, long refused, ToLongFunction<RingDisk> call) { }

    public static void main(String[] args) throws IllegalAccessException {
        for (int state = 0; state < STATES; state++) {
            for (Call c : refusals(state)) {
                twins(state, c);
            }
        }
        for (int state = 0; state < STATES; state++) {
            anyArguments(state);
        }
        C.end("RefusedTest");
    }

    /** 0: new, 1: told, at STEP 0, 2: on its way, 3: at STEP 9999, 4: all full. */
    private static RingDisk state(int which) {
        RingDisk x = new RingDisk();
        if (which == 0) {
            return x;
        }
        int rings = which == 4 ? 12 : 4;
        x.rings(rings);
        for (int ring = 0; ring < rings; ring++) {
            x.ring(ring, 100 + 30 * (ring * 7 % rings), ring, 100 + 50 * (ring % 5));
            for (int size = 0; size < 5; size++) {
                x.dust(ring, size, 40 + 7 * ring + 11 * size);
            }
        }
        x.star(150, 7, 60);
        x.seed(99);
        x.mark(3, false);
        Check.put(x, laws(which == 4));
        C.due("laws", x.laws(), 0);
        x.end(2);
        x.told(2, 1);
        if (which == 3) {
            for (int i = 0; i < 99; i++) {
                x.steps(100);
            }
            x.steps(99);
        } else if (which > 1) {
            x.steps(5);
        }
        Check.put(x, which == 4 ? "gap 1 when 1;" + " ".repeat(987) : "gap 1 when 1; gap");
        for (int i = 0; i < 9 && which == 4; i++) {
            x.told(3, i);
        }
        return x;
    }

    private static String laws(boolean most) {
        String all = "stick 10 to 20 when size < 3; break 5 when warm = 1; drift 10 to 30 when 1;"
                + "gather 60 when size = 4; feed 10 when 1; eat 5 when 1; wander 2 when 1; gap 2 when 1;"
                + "seen 30 when 1;";
        String more = "eat 1 to 2 when 0; eat 3 to 4 when 0; gather 20 when 1;" + "eat 1 when 0;".repeat(12);
        return most ? all + more : all;
    }

    private static List<Call> refusals(int state) {
        int rings = state == 0 || state == 4 ? 12 : 4;
        int open = state == 0 ? 0 : state == 4 ? 4 : 2;
        List<Call> all = new ArrayList<>();
        for (int bad : new int[] {LEAST, -1, rings, MOST}) {
            add(all, "ring(" + bad + ")", 0, x -> x.ring(bad, 1, 1, 1) ? 1 : 0);
            add(all, "dust(" + bad + ")", 0, x -> x.dust(bad, 1, 1) ? 1 : 0);
            add(all, "has(" + bad + ", 0)", THROWS, x -> has(x, bad, 0));
            add(all, "made(0, " + bad + ")", -1, x -> x.made(0, bad));
            add(all, "empty(" + bad + ", 0)", -1, x -> x.empty(bad, 0));
            add(all, "sure(1, 0, " + bad + ")", -1, x -> x.sure(1, 0, bad));
            add(all, "asked(0, 1, 3, " + bad + ")", -1, x -> x.asked(0, 1, 3, bad));
        }
        for (int bad : new int[] {LEAST, -1, 1 << open, MOST}) {
            add(all, "end(" + bad + ")", 0, x -> x.end(bad) ? 1 : 0);
            add(all, "fits(" + bad + ")", -1, x -> x.fits(bad));
            add(all, "empty(0, " + bad + ")", -1, x -> x.empty(0, bad));
            add(all, "asked(" + bad + ", 1, 0, 0)", -1, x -> x.asked(bad, 1, 0, 0));
            add(all, "barred(" + bad + ", 0)", -1, x -> x.barred(bad == 1 << open ? open : bad, 0));
        }
        numbersRefused(all);
        if (state > 1) {
            for (int n = 2; n <= 12; n += 2) {
                int many = n;
                add(all, "rings(" + n + ") behind STEP 0", 0, x -> x.rings(many) ? 1 : 0);
            }
            add(all, "ring behind STEP 0", 0, x -> x.ring(1, 5, 5, 5) ? 1 : 0);
            add(all, "dust behind STEP 0", 0, x -> x.dust(1, 1, 5) ? 1 : 0);
        }
        if (state == 3) {
            add(all, "steps(1)", -1, x -> x.steps(1));
            add(all, "steps(100)", -1, x -> x.steps(100));
        }
        if (state == 4) {
            add(all, "told(0, 0)", -1, x -> x.told(0, 0));
            add(all, "feed beyond 1000", 1000, x -> x.feed(-1, LONG_EDGES[4], LONG_EDGES[4]));
        }
        return all;
    }

    private static void numbersRefused(List<Call> all) {
        add(all, "rings(1)", 0, x -> x.rings(1) ? 1 : 0);
        add(all, "rings(13)", 0, x -> x.rings(13) ? 1 : 0);
        add(all, "gas", 0, x -> x.ring(0, 100000, 5, 5) ? 1 : 0);
        add(all, "WARM", 0, x -> x.ring(0, 5, 1000, 5) ? 1 : 0);
        add(all, "PERIOD", 0, x -> x.ring(0, 5, 5, 10000) ? 1 : 0);
        add(all, "SIZE", 0, x -> x.dust(0, 5, 5) ? 1 : 0);
        add(all, "dust", 0, x -> x.dust(0, 0, 100000) ? 1 : 0);
        add(all, "PULL", 0, x -> x.star(100000, 5, 5) ? 1 : 0);
        add(all, "LUCK", 0, x -> x.star(5, 21, 5) ? 1 : 0);
        add(all, "THROW", 0, x -> x.star(5, 5, 102) ? 1 : 0);
        add(all, "SEED", 0, x -> x.seed(-1) ? 1 : 0);
        add(all, "steps(0)", -1, x -> x.steps(0));
        add(all, "steps(101)", -1, x -> x.steps(101));
        add(all, "has(0, 8)", THROWS, x -> has(x, 0, 8));
        add(all, "look(30, 0)", -1, x -> x.look(30, 0));
        add(all, "look(0, 10)", -1, x -> x.look(0, 10));
        add(all, "made(30, 0)", -1, x -> x.made(30, 0));
        add(all, "parts(5)", -1, x -> x.parts(5));
        add(all, "asked(0, 101, 0, 0)", -1, x -> x.asked(0, 101, 0, 0));
        add(all, "asked(0, 1, 5, 0)", -1, x -> x.asked(0, 1, 5, 0));
        add(all, "asked(0, 1, 4, 1000000)", -1, x -> x.asked(0, 1, 4, 1000000));
        add(all, "sure(101, 0, 0)", -1, x -> x.sure(101, 0, 0));
        add(all, "runs(41, 1, 1)", -1, x -> x.runs(41, 1, 1));
        add(all, "runs(1, 61, 1)", -1, x -> x.runs(1, 61, 1));
        add(all, "runs(1, 1, 31)", -1, x -> x.runs(1, 1, 31));
        add(all, "told(31, 0)", -1, x -> x.told(31, 0));
        add(all, "told(0, 101)", -1, x -> x.told(0, 101));
        add(all, "barred(0, 2)", -1, x -> x.barred(0, 2));
        add(all, "mark(6, false)", 0, x -> x.mark(6, false) ? 1 : 0);
        add(all, "mark(-1, true)", 0, x -> x.mark(-1, true) ? 1 : 0);
        add(all, "mark(1, true)", 0, x -> x.mark(1, true) ? 1 : 0);
        add(all, "count(11)", -1, x -> x.count(11));
    }

    private static void add(List<Call> all, String name, long refused, ToLongFunction<RingDisk> call) {
        all.add(new Call(name, refused, call));
    }

    private static long has(RingDisk x, int ring, int size) {
        try {
            return x.has(ring, size);
        } catch (NoSuchElementException e) {
            return THROWS;
        }
    }

    /** Of two that are alike one is refused a call: they are alike still, now and in what comes of them. */
    private static void twins(int state, Call c) {
        RingDisk x = state(state);
        RingDisk y = state(state);
        C.due("state " + state + ": " + c.name, c.call.applyAsLong(x), c.refused);
        C.due("state " + state + ": all stays behind " + c.name, told(x).equals(told(y)), true);
    }

    private static String told(RingDisk x) {
        StringBuilder text = new StringBuilder();
        seen(x, text);
        text.append(x.fits(0)).append(x.barred(0, 0)).append(x.barred(0, 1)).append(' ');
        text.append(x.sure(3, 4, 50)).append(x.empty(0, 0)).append(x.runs(3, 5, -1)).append(' ');
        for (int mark : new int[] {0, 1, 2, 4, 5}) {
            text.append(x.mark(mark, true));
        }
        x.steps(3);
        seen(x, text);
        text.append(x.laws()).append(' ').append(x.forget()).append(' ').append(x.mark(3, true));
        x.steps(4);
        seen(x, text);
        return text.toString();
    }

    private static void seen(RingDisk x, StringBuilder text) {
        for (int what = 0; what <= 10; what++) {
            text.append(x.count(what)).append(' ');
        }
        for (int what = 0; what < 5; what++) {
            text.append(x.parts(what)).append(' ');
        }
        for (int ring = 0; ring < x.count(1); ring++) {
            for (int size = 0; size < 6; size++) {
                text.append(x.has(ring, size)).append(' ');
            }
        }
        for (int lump = 0; lump < x.count(2); lump += 3) {
            text.append(x.look(lump, 0)).append(x.look(lump, 1)).append(' ').append(x.look(lump, 2)).append(' ');
            text.append(x.look(lump, 9)).append(x.look(lump, 5)).append(' ');
        }
        text.append(x.back()).append('\n');
    }

    /** Every call with every bound and what lies beyond; a new object takes its place now and then. */
    private static void anyArguments(int state) throws IllegalAccessException {
        for (Method m : RingDisk.class.getMethods()) {
            if (m.getDeclaringClass() != RingDisk.class) {
                continue;
            }
            Class<?>[] types = m.getParameterTypes();
            int all = 1;
            for (Class<?> type : types) {
                all *= valuesOf(type);
            }
            RingDisk x = state(state);
            int calls = 0;
            for (int i = 0; i < all; i++) {
                if (++calls > 250) {
                    x = state(state);
                    calls = 0;
                }
                fine(x, m, types, i);
            }
        }
    }

    private static int valuesOf(Class<?> type) {
        return type == int.class ? EDGES.length : type == long.class ? LONG_EDGES.length : 2;
    }

    private static void fine(RingDisk x, Method m, Class<?>[] types, int which) throws IllegalAccessException {
        Object[] values = new Object[types.length];
        int left = which;
        for (int p = 0; p < types.length; p++) {
            int at = left % valuesOf(types[p]);
            left /= valuesOf(types[p]);
            values[p] = types[p] == int.class ? (Object) EDGES[at] : types[p] == long.class ? (Object) LONG_EDGES[at]
                    : (Object) (at == 1);
        }
        String thrown = "";
        try {
            m.invoke(x, values);
        } catch (InvocationTargetException e) {
            thrown = e.getCause().getClass().getName();
        }
        boolean isPromised = thrown.isEmpty()
                || m.getName().equals("has") && thrown.equals("java.util.NoSuchElementException");
        C.due(m.getName() + Arrays.toString(values) + " throws " + thrown, isPromised, true);
    }
}
