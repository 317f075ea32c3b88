import java.lang.management.ManagementFactory;
import java.lang.reflect.Array;
import java.lang.reflect.Field;
import java.lang.reflect.Modifier;
import java.util.ArrayDeque;
import java.util.Collections;
import java.util.Deque;
import java.util.IdentityHashMap;
import java.util.Set;

/** How much room an object takes, and that calls take none. */
public final class RoomTest {
    private static final Checks CHECKS = new Checks();

    private RoomTest() {
    }

    public static void main(String[] args) throws Exception {
        anObject();
        calls();
        CHECKS.end("RoomTest");
    }

    private static void anObject() throws Exception {
        Set<Object> seen = Collections.newSetFromMap(new IdentityHashMap<>());
        Deque<Object> left = new ArrayDeque<>();
        left.add(new ElmKite());
        long elements = 0;
        while (!left.isEmpty()) {
            Object one = left.pop();
            if (!seen.add(one)) {
                continue;
            }
            if (one.getClass().isArray()) {
                elements += Array.getLength(one);
                continue;
            }
            for (Field field : one.getClass().getDeclaredFields()) {
                if (!Modifier.isStatic(field.getModifiers())) {
                    elements++;
                    field.setAccessible(true);
                    if (!field.getType().isPrimitive() && field.get(one) != null) {
                        left.add(field.get(one));
                    }
                }
            }
        }
        System.out.println("an object: " + seen.size() + " objects and arrays, " + elements + " fields and elements");
        CHECKS.due("512 objects are no more than 600,000", seen.size() * 512L <= 600000, true);
        CHECKS.due("512 objects' elements are no more than 7.3 million", elements * 512L <= 7300000, true);
    }

    private static void calls() {
        var threads = (com.sun.management.ThreadMXBean) ManagementFactory.getThreadMXBean();
        ElmKite x = new ElmKite();
        String tree = "twig a high 9 thick 7 side east;twig b high 9 thick 7 side west on a;string b a;kite worth 9 paper 9;"
            + "thing p worth 3 stuck 4 frees 3;thing q worth 5 stuck 2 frees 1;over p q;run 4+(size-tight)*(away<2);lift 3;dew 1;";
        all(x, tree);
        long ahead = threads.getThreadAllocatedBytes(Thread.currentThread().getId());
        for (int i = 0; i < 20; i++) {
            all(x, tree);
        }
        long taken = threads.getThreadAllocatedBytes(Thread.currentThread().getId()) - ahead;
        System.out.println("20 times all calls: " + taken + " bytes");
        CHECKS.due("calls take no room", taken < 10000, true);
    }

    private static void all(ElmKite x, String tree) {
        Feeding.feed(x, tree);
        x.tree();
        Feeding.feed(x, "hurl p sticks;hour west;pull east hard runs;");
        x.afternoon();
        x.mark(1, false);
        for (int i = 0; i < 4; i++) {
            x.next(6, 0);
            x.afternoons(i, 20, 6, 2);
            x.judged(0);
            x.tell(i, i < 2);
            x.fits();
            x.likely(1);
            x.tells();
            x.cut(i, 3, 1);
            x.waits(i, 48);
            x.lasts();
            x.nearest(i, 3);
            x.places(i);
            x.safe(i, i);
            x.came(i, 0);
            x.pull(i, true, 1);
            x.slack();
            x.lifts();
            x.hurl(0, 1);
            x.climb(i, true);
            x.hour(i);
            x.undo();
            x.twig(i, 4);
            x.thing(i, 3);
            x.far(i);
            x.minutes(i);
            x.worth();
            x.count(i);
        }
        x.mark(1, true);
    }
}
