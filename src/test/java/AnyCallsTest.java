import java.lang.reflect.InvocationTargetException;
import java.lang.reflect.Method;
import java.util.ArrayList;
import java.util.Comparator;
import java.util.List;

/**
 * "No call may ever throw or fail to end, for any arguments in any state" (LANGUAGE.md 7), so also behind the 512th,
 * when its answer is free; "the same calls always give the same answers" (13), whatever other objects are told.
 */
public final class AnyCallsTest {
    private static final int OBJECTS = 40, CALLS = 5_000, ANSWERED_CALLS = 512;
    private static final int[] EDGES = {
        Integer.MIN_VALUE, Integer.MIN_VALUE + 1, -129, -100, -14, -6, -5, -4, -3, -2, -1, 59, 60, 61, 63, 64, 98, 99, 100,
        101, 127, 128, 255, 256, Integer.MAX_VALUE - 1, Integer.MAX_VALUE,
    };
    private static final long[] LONG_EDGES = {Long.MIN_VALUE, Long.MIN_VALUE + 1, 1L << 32, -1L << 31, Long.MAX_VALUE};
    private static final String LETTERS = "people meet drop delay ask ;0123";

    private static Numbers numbers;

    public static void main(String[] args) {
        List<Method> calls = calls();
        Check.due("calls", calls.size(), 35);
        for (int o = 0; o < OBJECTS; o++) {
            numbers = new Numbers(o + 1);
            run(calls, "object " + o);
        }
        Check.end();
    }

    private static List<Method> calls() {
        List<Method> all = new ArrayList<>(Script.calls());
        // The machine may tell them in any order, and the runs should be the same each time.
        all.sort(Comparator.comparing(Method::getName));
        return all;
    }

    private static void run(List<Method> calls, String name) {
        HandRelay one = new HandRelay();
        HandRelay same = new HandRelay();
        HandRelay other = new HandRelay();
        for (int c = 0; c < CALLS; c++) {
            Method m = any(calls);
            Object[] values = values(m);
            long answer = answer(name, m, one, values);
            Method apart = any(calls);
            answer(name + ", another", apart, other, values(apart));
            long again = answer(name, m, same, values);
            if (c < ANSWERED_CALLS) {
                Check.due(name + ": " + m.getName() + ", told the same", again, answer);
            }
        }
    }

    /** Seldom people, which would empty an object before much can have come. */
    private static Method any(List<Method> calls) {
        Method m = calls.get(upTo(calls.size()));
        return m.getName().equals("people") && upTo(12) > 0 ? any(calls) : m;
    }

    private static long answer(String name, Method m, HandRelay x, Object[] values) {
        try {
            return ((Number) m.invoke(x, values)).longValue();
        } catch (InvocationTargetException e) {
            Check.due(name + ": " + m.getName() + " threw " + e.getCause(), false);
        } catch (IllegalAccessException e) {
            Check.due(name + ": " + m.getName() + " is public", false);
        }
        return 0;
    }

    private static Object[] values(Method m) {
        Class<?>[] sorts = m.getParameterTypes();
        Object[] all = new Object[sorts.length];
        boolean isSmall = upTo(3) > 0;
        for (int k = 0; k < all.length; k++) {
            if (sorts[k] == boolean.class) {
                all[k] = upTo(2) == 0;
            } else if (sorts[k] == long.class) {
                all[k] = isSmall ? upTo(14) : upTo(2) == 0 ? LONG_EDGES[upTo(LONG_EDGES.length)] : numbers.next();
            } else if (m.getName().equals("feed") && isSmall) {
                all[k] = (int) LETTERS.charAt(upTo(LETTERS.length()));
            } else {
                all[k] = isSmall ? upTo(6) : upTo(3) > 0 ? EDGES[upTo(EDGES.length)] : (int) numbers.next();
            }
        }
        return all;
    }

    private static int upTo(int n) {
        return numbers.upTo(n);
    }
}
