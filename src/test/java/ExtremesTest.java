import java.lang.management.ManagementFactory;
import java.lang.reflect.InvocationTargetException;
import java.lang.reflect.Method;
import java.lang.reflect.Modifier;
import java.util.Arrays;

/** No call throws, whatever it is handed and in whatever state; and what calls make keeps within the one room of all. */
public final class ExtremesTest {
    private static final Dues d = new Dues("ExtremesTest");
    private static final int[] EXTREMES = {Integer.MIN_VALUE, Integer.MIN_VALUE + 1, -1000000005, -100000, -1, 0, 1, 2, 7, 24,
        59, 60, 99, 300, 9999, 65536, Integer.MAX_VALUE - 1, Integer.MAX_VALUE};

    public static void main(String[] args) throws Exception {
        for (Method m : BarleyLine.class.getDeclaredMethods()) {
            if (Modifier.isPublic(m.getModifiers())) {
                everyArgument(m);
            }
        }
        room();
        d.end();
    }

    private static void everyArgument(Method call) throws Exception {
        int n = call.getParameterCount();
        int[] pool = n > 3 ? new int[] {Integer.MIN_VALUE, -1, 0, 1, 5, 24, Integer.MAX_VALUE} : EXTREMES;
        int combinations = (int) Math.round(Math.pow(pool.length, n));
        BarleyLine plain = new BarleyLine();
        BarleyLine full = filled();
        for (int k = 0; k < combinations; k++) {
            // New ones from time to time: an object is good for 512 calls, and some 200 of them fill it.
            if (k % 300 == 299) {
                plain = new BarleyLine();
                full = filled();
            }
            Object[] args = new Object[n];
            int left = k;
            for (int i = 0; i < n; i++) {
                args[i] = pool[left % pool.length];
                left /= pool.length;
            }
            asked(plain, call, args);
            asked(full, call, args);
        }
    }

    private static void asked(BarleyLine x, Method call, Object[] args) throws Exception {
        try {
            call.invoke(x, args);
        } catch (InvocationTargetException e) {
            d.holds(call.getName() + Arrays.toString(args) + " threw " + e.getCause(), false);
        }
    }

    private static BarleyLine filled() {
        BarleyLine x = new BarleyLine();
        x.deal(8);
        x.rule(0, 99);
        x.rule(1, 100);
        x.rule(2, -3);
        x.rule(3, 9);
        Dues.text(x, "leak " + Dues.many("!(0|1&2<3+4*", 7) + "h" + Dues.many(")", 7));
        for (int i = 0; i < 13; i++) {
            Dues.text(x, i % 2 == 0 ? "leak (0-2)*(4096*4096*64)/(0-h)/(p-p)+g" : "fine 9999*9999*g");
        }
        x.sheet(0, 0, 24);
        x.sheet(1, 1, 24);
        x.mark(1, 3, -1000000005);
        x.lay(0, 1, 0);
        x.lay(1, 2, 1);
        x.lay(2, 3, Integer.MIN_VALUE);
        x.minutes(100);
        x.keep();
        for (int i = 0; i < 60; i++) {
            x.tell(i);
        }
        for (int i = 0; i < 8; i++) {
            x.feed(-1, 0, i);
        }
        return x;
    }

    /** The room that one run has: 7.3 million fields and elements, of four bytes at least. */
    private static final long ROOM = 4L * 7300000;

    private static void room() {
        if (!(ManagementFactory.getThreadMXBean() instanceof com.sun.management.ThreadMXBean bean)) {
            return;
        }
        BarleyLine x = filled();
        int sum = dearest(x);
        long before = bean.getCurrentThreadAllocatedBytes();
        for (int i = 0; i < 25; i++) {
            sum += dearest(x);
        }
        long made = bean.getCurrentThreadAllocatedBytes() - before;
        d.holds("275 calls made " + made + " bytes (" + sum + ")", made < ROOM / 2);
    }

    private static int dearest(BarleyLine x) {
        return x.patch(60, 0) + x.whose(0, 60, 1) + x.empty() + x.behind(100, 0) + x.thickest(100, 0) + x.pan(1, 60)
                + x.check(30) + x.keep() + x.back() + x.feed(0x6c65616b, 0x20682b31, 0x2b312b31) + x.text();
    }
}
