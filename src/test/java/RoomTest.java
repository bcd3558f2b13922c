import java.lang.management.ManagementFactory;
import java.lang.reflect.Array;
import java.lang.reflect.Field;
import java.lang.reflect.Modifier;
import java.util.IdentityHashMap;
import java.util.Map;

/** All calls of one run share a room: what an object takes, and that calls take no more. */
public final class RoomTest {
    private static final String LARGEST = "t1,0,0,1;t2,1,1,2;t3,2,2,3;t4,3,3,4;t5,0,4,5;t6,1,5,6;t7,2,6,7;t8,3,7,8;"
            + "p0,0,2;p1,0,2;p2,0,1;p3,1,2;i0,0;i0,1;i1,2;i1,3;i2,4;i3,5;i3,6;";
    /** What the machine itself may take aside, as for a method that is compiled meanwhile. */
    private static final long FREE_BYTES = 20000;

    private static final Checks CHECKS = new Checks();
    private static final com.sun.management.ThreadMXBean THREADS = (com.sun.management.ThreadMXBean) ManagementFactory.getThreadMXBean();

    public static void main(String[] args) throws Exception {
        ShakenParcels x = new ShakenParcels();
        long[] small = size(x);
        System.out.println("a new object: " + small[0] + " objects and arrays, " + small[1] + " fields and elements");
        // 512 objects in one run have to fit, with room to spare
        CHECKS.holds("a new object is small", small[0] < 600000 / 1024 && small[1] < 7300000 / 1024);
        CHECKS.due("worlds", Checks.lay(x, LARGEST), 5040);
        long[] large = size(x);
        System.out.println("the largest one: " + large[0] + " objects and arrays, " + large[1] + " fields and elements");
        CHECKS.holds("the largest object is not large", large[1] < 25000);
        callsMakeNothing(x);
        CHECKS.end();
    }

    private static void callsMakeNothing(ShakenParcels x) {
        callAll(x);
        long before = allocated();
        for (int i = 0; i < 10; i++) {
            callAll(x);
        }
        long made = allocated() - before;
        CHECKS.holds("calls make nothing, but made " + made + " bytes", made < FREE_BYTES);
    }

    private static long allocated() {
        return THREADS.getThreadAllocatedBytes(Thread.currentThread().getId());
    }

    private static void callAll(ShakenParcels x) {
        x.fault();
        x.lay();
        for (int p = 0; p < 4; p++) {
            for (int sort = 0; sort < 3; sort++) {
                x.few(p);
                x.guess(p, 1);
                x.likely(p, p, 1);
                x.sure(p, true);
                x.misled(p, 1);
                x.morning(p, 1);
                x.attempt(p, sort);
            }
        }
        x.hide(0, 1);
        x.change(0, 1);
        x.keep();
        x.undo();
        x.back();
        x.solved(0);
        x.next(0);
        x.more(0);
        x.heavier(0, 1);
        x.risk(0);
        x.seconds();
        x.judge();
        x.left();
    }

    /** Objects and arrays; fields and elements. */
    private static long[] size(Object root) throws Exception {
        Map<Object, Boolean> seen = new IdentityHashMap<>();
        long[] sums = new long[2];
        walk(root, seen, sums);
        return sums;
    }

    private static void walk(Object one, Map<Object, Boolean> seen, long[] sums) throws Exception {
        if (one == null || seen.put(one, true) != null) {
            return;
        }
        sums[0]++;
        if (one.getClass().isArray()) {
            sums[1] += Array.getLength(one);
            for (int i = 0; i < Array.getLength(one) && !one.getClass().getComponentType().isPrimitive(); i++) {
                walk(Array.get(one, i), seen, sums);
            }
            return;
        }
        for (Field field : one.getClass().getDeclaredFields()) {
            if (!Modifier.isStatic(field.getModifiers())) {
                sums[1]++;
                field.setAccessible(true);
                if (!field.getType().isPrimitive()) {
                    walk(field.get(one), seen, sums);
                }
            }
        }
    }
}
