import java.lang.reflect.Method;
import java.lang.reflect.Modifier;
import java.util.ArrayList;
import java.util.Collection;
import java.util.HashMap;
import java.util.List;
import java.util.Map;

/**
 * Calls told as text, on one new object. A line (or a part of one, between bars) is a call and its numbers, and
 * behind -> the answer that is due. Without -> the answer must be no refusal, so that no set-up goes wrong unseen.
 *
 * <p>A number may be a list (1,7,MIN) or a row (0..5): then all of them are called, what is further right
 * running faster, and there is one answer for all or one for each. "text" feeds all signs behind it.
 */
final class Script {
    private static final int MOST_CALLS = 512;
    private static final Map<String, Method> CALLS = new HashMap<>();
    private static final Map<String, Long> ANSWERS = Map.of(
        "NONE", -1L, "BAD", -2L, "STATE", -3L, "FULL", -4L, "NOTHING", -11L, "CAST", -12L, "PLACE", -13L, "SIZE", -14L,
        "NO", Long.MIN_VALUE);

    static {
        for (Method m : HandRelay.class.getDeclaredMethods()) {
            if (Modifier.isPublic(m.getModifiers())) {
                CALLS.put(m.getName(), m);
            }
        }
    }

    final HandRelay x = new HandRelay();
    private int calls;

    /** A script that shows what these words of the document ask. */
    static void shows(String words, String script) {
        Check.says(words);
        new Script().tell(script);
    }

    /** All calls of the class. */
    static Collection<Method> calls() {
        return CALLS.values();
    }

    Script tell(String script) {
        for (String line : script.split("\n")) {
            if (line.startsWith("text ")) {
                tellText(line.substring(5));
            } else {
                for (String part : line.split("\\|")) {
                    tellPart(part.trim());
                }
            }
        }
        return this;
    }

    private void tellText(String text) {
        for (int i = 0; i < text.length(); i++) {
            Check.due("feed of \"" + text + "\" isn't refused", call("feed " + (int) text.charAt(i)) >= 0);
        }
    }

    private void tellPart(String part) {
        if (part.isEmpty()) {
            return;
        }
        String[] halves = part.split("->");
        List<String> all = spread(halves[0].trim());
        if (halves.length == 1) {
            for (String call : all) {
                long answer = call(call);
                Check.due(call + " is refused by " + answer, answer >= 0);
            }
            return;
        }
        String[] due = halves[1].trim().split(" +");
        Check.due(part + ": one answer for each", due.length == 1 || due.length == all.size());
        for (int k = 0; k < all.size(); k++) {
            Check.due(all.get(k), call(all.get(k)), answer(due[due.length == 1 ? 0 : Math.min(k, due.length - 1)]));
        }
    }

    static List<String> spread(String call) {
        List<String> all = List.of("");
        for (String word : call.split(" +")) {
            List<String> longer = new ArrayList<>();
            for (String so : all) {
                for (String one : each(word)) {
                    longer.add(so.isEmpty() ? one : so + " " + one);
                }
            }
            all = longer;
        }
        return all;
    }

    private static List<String> each(String word) {
        if (!word.contains("..")) {
            return List.of(word.split(","));
        }
        int dots = word.indexOf("..");
        List<String> row = new ArrayList<>();
        for (int k = Integer.parseInt(word.substring(0, dots)); k <= Integer.parseInt(word.substring(dots + 2)); k++) {
            row.add(Integer.toString(k));
        }
        return row;
    }

    private static long answer(String word) {
        return ANSWERS.containsKey(word) ? ANSWERS.get(word) : Long.parseLong(word);
    }

    /** One call, as told: its name and its numbers. */
    long call(String told) {
        calls++;
        if (calls > MOST_CALLS) {
            throw new IllegalStateException("what later calls than the 512th answer is free: " + told);
        }
        String[] words = told.split(" ");
        Method m = CALLS.get(words[0]);
        if (m == null || m.getParameterCount() != words.length - 1) {
            throw new IllegalStateException("no such call: " + told);
        }
        Object[] values = new Object[words.length - 1];
        for (int k = 0; k < values.length; k++) {
            values[k] = value(m.getParameterTypes()[k], words[k + 1]);
        }
        try {
            return ((Number) m.invoke(x, values)).longValue();
        } catch (ReflectiveOperationException e) {
            throw new IllegalStateException(told, e);
        }
    }

    private static Object value(Class<?> sort, String word) {
        if (sort == boolean.class) {
            return Boolean.parseBoolean(word);
        }
        if (sort == long.class) {
            return word.equals("MIN") ? Long.MIN_VALUE : word.equals("MAX") ? Long.MAX_VALUE : Long.parseLong(word);
        }
        return word.equals("MIN") ? Integer.MIN_VALUE : word.equals("MAX") ? Integer.MAX_VALUE : Integer.parseInt(word);
    }
}
