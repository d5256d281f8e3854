import com.sun.management.ThreadMXBean;
import java.lang.management.ManagementFactory;
import java.lang.reflect.Array;
import java.lang.reflect.Field;
import java.lang.reflect.Modifier;
import java.util.ArrayDeque;
import java.util.Collections;
import java.util.Deque;
import java.util.IdentityHashMap;
import java.util.Set;

/**
 * Whether a desk keeps to a small part of the room that all calls of a run share: some 600,000
 * objects and arrays, 7.3 million fields and elements.
 */
public final class RoomTests {
    private static final long MOST_OBJECTS = 10000;
    private static final long MOST_ELEMENTS = 100000;
    private static final int CALLS = 400;
    /** What a call may make beside its text's characters, in bytes. */
    private static final int BESIDE = 128;

    private static int wrong;

    interface Ask {
        Object of(Treeward x);
    }

    private static void tell(String text) {
        wrong++;
        System.out.println(text);
    }

    /** Counts all objects and arrays of a desk, and all of their fields and elements. */
    private static long[] count(Object desk) throws IllegalAccessException {
        Set<Object> seen = Collections.newSetFromMap(new IdentityHashMap<>());
        Deque<Object> open = new ArrayDeque<>();
        long elements = 0;
        seen.add(desk);
        open.add(desk);
        while (!open.isEmpty()) {
            Object one = open.remove();
            if (one.getClass().isArray()) {
                elements += Array.getLength(one);
                for (int n = 0; n < Array.getLength(one) && one instanceof Object[]; n++) {
                    find(((Object[]) one)[n], seen, open);
                }
            } else if (one.getClass().getName().startsWith("Treeward")) {
                for (Field field : one.getClass().getDeclaredFields()) {
                    if (!Modifier.isStatic(field.getModifiers())) {
                        elements++;
                        field.setAccessible(true);
                        if (!field.getType().isPrimitive()) {
                            find(field.get(one), seen, open);
                        }
                    }
                }
            }
        }
        return new long[] {seen.size(), elements};
    }

    private static void find(Object one, Set<Object> seen, Deque<Object> open) {
        if (one != null && seen.add(one)) {
            open.add(one);
        }
    }

    /** Four steps of three ways, all prices long fractions, four claims of products, a play. */
    private static Treeward heavy() {
        Treeward x = new Treeward();
        x.start(false, 97, 9);
        x.start(true, 89, 7);
        for (int n = 0; n < 4; n++) {
            x.step(9, 7, 5, 8, 8, 9);
            x.middle(n, 8, 9);
            x.pays(n, 1 + n % 2, 1, 9 - n);
            x.beside(n, 9, 8, 5, 7);
        }
        int[] row = {10, 11, 17, 12, 17, 14, 17};
        for (int sign : row) {
            x.type(sign);
        }
        for (int n = 0; n < 4; n++) {
            x.claim(4, n % 2 == 0);
            x.book(n, 9 - n);
            x.quote(n, 1, 9);
        }
        x.fee(7, 97);
        x.sell(0);
        return x;
    }

    private static void measure(ThreadMXBean threads, String name, Ask ask) {
        Treeward x = heavy();
        int length = 0;
        for (int n = 0; n < 20; n++) {
            length = String.valueOf(ask.of(x)).length();
        }
        long before = threads.getCurrentThreadAllocatedBytes();
        for (int n = 0; n < CALLS; n++) {
            ask.of(x);
        }
        long each = (threads.getCurrentThreadAllocatedBytes() - before) / CALLS;
        if (each > length + BESIDE) {
            tell(name + " makes " + each + " bytes a call, for a text of " + length);
        }
    }

    public static void main(String[] args) throws IllegalAccessException {
        long[] of = count(heavy());
        if (of[0] > MOST_OBJECTS || of[1] > MOST_ELEMENTS) {
            tell("a desk has " + of[0] + " objects and " + of[1] + " elements");
        }
        if (ManagementFactory.getThreadMXBean() instanceof ThreadMXBean) {
            ThreadMXBean threads = (ThreadMXBean) ManagementFactory.getThreadMXBean();
            measure(threads, "prices", x -> x.prices(4, true));
            measure(threads, "implied", x -> x.implied(3, 99, 1));
            measure(threads, "worth", x -> x.worth(0, 0, 0, true));
            measure(threads, "holding", x -> x.holding(0, 3, 26, false, 1));
            measure(threads, "best", x -> x.best(0));
            measure(threads, "law", x -> x.law(1, 3));
            measure(threads, "worthOf", x -> x.worthOf(97, 8, true));
            measure(threads, "least", x -> x.least(4));
            measure(threads, "trade", Treeward::trade);
            measure(threads, "played", x -> x.played(0));
            measure(threads, "isSound", Treeward::isSound);
            measure(threads, "digest", Treeward::digest);
            measure(threads, "start", x -> x.start(false, 95, 8) + x.digest());
            measure(threads, "undo", x -> x.sell(0) + x.day(2) + x.played(3).length() + x.undo() + x.undo());
        }
        System.out.println(wrong == 0 ? "a desk has " + of[0] + " objects and " + of[1]
                + " elements; calls make nothing but their texts" : wrong + " are not as due");
        if (wrong != 0) {
            System.exit(1);
        }
    }
}
