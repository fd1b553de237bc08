import java.lang.management.ManagementFactory;
import java.lang.reflect.Array;
import java.lang.reflect.Field;
import java.lang.reflect.Modifier;
import java.util.IdentityHashMap;
import java.util.Map;

/**
 * The dearest calls that could be thought of, some hundreds of them, far from the bound that is set
 * for their time; and what an object takes of the room that all calls of a run live in.
 */
public final class CostTest {
    private static final long MOST_SECONDS = 120;
    /** So many that the object has no more than its 512 calls. */
    private static final int JOINS = 140;
    private static final Due due = new Due("costs");

    public static void main(String[] args) {
        long start = System.nanoTime();
        roomOfAnObject();
        joinsOfSmallOnes();
        joinsAgainstWords();
        widths();
        long seconds = (System.nanoTime() - start) / 1_000_000_000L;
        System.out.println("costs: " + seconds + " seconds");
        due.is("within " + MOST_SECONDS + " seconds", seconds <= MOST_SECONDS, true);
        due.close();
    }

    /** Many places for both, and many of them touch. */
    private static void joinsOfSmallOnes() {
        TornReeds x = new TornReeds();
        for (int b = 0; b < 6; b++) {
            Due.bit(x, b, "._._._._._;;._._._._._;;._._._._._");
            due.is("laid", x.lay(b, b / 2 * 5, b % 2 * 20), true);
        }
        Due.bit(x, 8, ".");
        Due.bit(x, 9, ".");
        joinOften(x, 20 + 2 + 2 + 1);
    }

    /** Each BIT alone may lie at many places, but side by side in a ROW they make no word. */
    private static void joinsAgainstWords() {
        TornReeds x = new TornReeds();
        for (int n = 0; n < 12; n++) {
            Due.word(x, n % 2 == 0 ? "aaaaaaaaaa" : "bbbbbbbbbb");
        }
        for (int b = 0; b < 6; b++) {
            Due.bit(x, b, ",,,,,,,,,,");
            due.is("laid", x.lay(b, 5 + b / 3 * 6, b % 3 * 10), true);
        }
        Due.bit(x, 8, "a_a;a_a;a_a;a_a;a_a");
        Due.bit(x, 9, "_b;_b;_b;_b;_b");
        joinOften(x, 4 + 4 + 2);
    }

    private static void joinOften(TornReeds x, int worth) {
        due.is("joined", x.join(8, 9), worth);
        long before = bytesMade();
        int joined = 0;
        for (int n = 0; n < JOINS; n++) {
            x.take(8);
            x.take(9);
            joined += x.join(8, 9) == worth ? 1 : 0;
        }
        due.is("a join makes nothing", bytesMade() - before < 10_000, true);
        due.is("joined", joined, JOINS);
    }

    private static long bytesMade() {
        return ((com.sun.management.ThreadMXBean) ManagementFactory.getThreadMXBean())
                .getThreadAllocatedBytes(Thread.currentThread().getId());
    }

    /** A run has room for 600,000 objects and 7,300,000 fields and elements. */
    private static void roomOfAnObject() {
        Map<Object, Integer> sizes = new IdentityHashMap<>();
        measure(new TornReeds(), sizes);
        int elements = 0;
        for (int size : sizes.values()) {
            elements += size;
        }
        System.out.println("costs: an object is " + sizes.size() + " objects, " + elements + " fields and elements");
        due.is("few objects", sizes.size() <= 250, true);
        due.is("few elements", elements <= 10_000, true);
    }

    private static void measure(Object o, Map<Object, Integer> sizes) {
        if (o == null || sizes.containsKey(o)) {
            return;
        }
        if (o.getClass().isArray()) {
            sizes.put(o, Array.getLength(o));
            for (int i = 0; i < Array.getLength(o) && !o.getClass().getComponentType().isPrimitive(); i++) {
                measure(Array.get(o, i), sizes);
            }
            return;
        }
        sizes.put(o, 0);
        for (Field f : o.getClass().getDeclaredFields()) {
            if (!Modifier.isStatic(f.getModifiers())) {
                sizes.merge(o, 1, Integer::sum);
                f.setAccessible(true);
                measureField(o, f, sizes);
            }
        }
    }

    private static void measureField(Object o, Field f, Map<Object, Integer> sizes) {
        try {
            if (!f.getType().isPrimitive()) {
                measure(f.get(o), sizes);
            }
        } catch (IllegalAccessException e) {
            throw new IllegalStateException(e);
        }
    }

    private static void widths() {
        TornReeds x = new TornReeds();
        Due.bit(x, 0, "..........;..........;..........;..........;..........");
        Due.known(x, "a".repeat(200));
        for (int n = 0; n < 400; n++) {
            due.is("most often", x.width(0, 2, 60) > 0, true);
        }
    }
}
