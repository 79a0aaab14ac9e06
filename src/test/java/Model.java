import java.math.BigInteger;
import java.util.ArrayList;
import java.util.Arrays;
import java.util.Collections;
import java.util.Comparator;
import java.util.List;
import java.util.Set;
import java.util.TreeSet;
import java.util.function.Predicate;
import java.util.regex.Matcher;
import java.util.regex.Pattern;

/**
 * The document once more, told another way than the class tells it: every answer comes from the list of
 * all WAYS, which are found by trying each row of MEETINGS against the words of the document.
 */
final class Model {
    static final long NO = Long.MIN_VALUE;

    record Meeting(int time, int first, int second, int sure, boolean isDropped) { }

    record Seen(int person, int time, boolean isReached) { }

    record Event(int what, int n) { }

    record Row(int person, int time) { }

    record World(int n, List<Meeting> meetings, int delay, int from, int to, int start,
            List<Seen> seen, List<Event> events, List<Row> book) {
        World withMeetings(List<Meeting> all) {
            return new World(n, all, delay, from, to, start, seen, events, book);
        }

        World withDelay(int d) {
            return new World(n, meetings, d, from, to, start, seen, events, book);
        }

        World withQuestion(int newFrom, int newTo, int newStart) {
            return new World(n, meetings, delay, newFrom, newTo, newStart, seen, events, book);
        }

        World withTold(List<Seen> s, List<Event> e, List<Row> b) {
            return new World(n, meetings, delay, from, to, start, s, e, b);
        }
    }

    record Way(List<Integer> row, List<Integer> holders, int arrival, BigInteger above, BigInteger below) {
        int hands() {
            return row.size();
        }
    }

    private World w = new World(3, List.of(), 1, 0, 1, 0, List.of(), List.of(), List.of());
    private World image;
    private String text = "";
    private final Object[] tapes = new Object[6];

    // ---- what the words say of one row of MEETINGS

    /** Who HELD it, one behind the other; null if the row isn't one in which each MEETING hands it on. */
    private static List<Integer> holders(World w, List<Integer> row) {
        List<Integer> held = new ArrayList<>(List.of(w.from));
        int earliest = w.start;
        for (int m : row) {
            if (m < 0 || m >= w.meetings.size()) {
                return null;
            }
            Meeting meeting = w.meetings.get(m);
            int holder = held.get(held.size() - 1);
            boolean isOf = meeting.first == holder || meeting.second == holder;
            int next = meeting.first + meeting.second - holder;
            if (meeting.isDropped || !isOf || meeting.time < earliest || held.contains(next)) {
                return null;
            }
            held.add(next);
            earliest = meeting.time + w.delay;
        }
        return held;
    }

    private static List<Way> ways(World w) {
        List<Way> found = new ArrayList<>();
        grow(w, new ArrayList<>(), found);
        return found;
    }

    private static void grow(World w, List<Integer> row, List<Way> found) {
        List<Integer> held = holders(w, row);
        if (held == null) {
            return;
        }
        if (held.get(held.size() - 1) == w.to) {
            BigInteger above = BigInteger.ONE;
            for (int m : row) {
                above = above.multiply(BigInteger.valueOf(w.meetings.get(m).sure));
            }
            int arrival = row.isEmpty() ? w.start : w.meetings.get(row.get(row.size() - 1)).time;
            found.add(new Way(List.copyOf(row), held, arrival, above, BigInteger.valueOf(100).pow(row.size())));
            return;
        }
        for (int m = w.meetings.size() - 1; m >= 0; m--) {
            row.add(m);
            grow(w, row, found);
            row.remove(row.size() - 1);
        }
    }

    private static Comparator<Way> byRule(int rule) {
        Comparator<Way> arrival = Comparator.comparingInt(Way::arrival);
        Comparator<Way> hands = Comparator.comparingInt(Way::hands);
        Comparator<Way> surest = (a, b) -> b.above.multiply(a.below).compareTo(a.above.multiply(b.below));
        Comparator<Way> numbers = (a, b) -> Arrays.compare(
            a.row.stream().mapToInt(i -> i).toArray(), b.row.stream().mapToInt(i -> i).toArray());
        Comparator<Way> first = rule == 0 ? arrival.thenComparing(hands)
            : rule == 1 ? hands.thenComparing(arrival)
            : surest.thenComparing(arrival).thenComparing(hands);
        return first.thenComparing(numbers);
    }

    private static Way theWay(World w, int rule) {
        List<Way> all = ways(w);
        return all.isEmpty() ? null : Collections.min(all, byRule(rule));
    }

    private static int leastArrival(List<Way> all, Predicate<Way> which) {
        return all.stream().filter(which).mapToInt(Way::arrival).min().orElse(-5);
    }

    private static int reach(World w, int person) {
        return leastArrival(ways(w.withQuestion(w.from, person, w.start)), way -> true);
    }

    private static boolean isPerson(World w, int p) {
        return p >= 0 && p < w.n;
    }

    private static boolean within(long v, long least, long greatest) {
        return v >= least && v <= greatest;
    }

    private static int there(World w) {
        return (int) w.meetings.stream().filter(m -> !m.isDropped).count();
    }

    private static <T> List<T> and(List<T> rows, T one) {
        List<T> more = new ArrayList<>(rows);
        more.add(one);
        return more;
    }

    private static <T> List<T> with(List<T> rows, int place, T one) {
        List<T> changed = new ArrayList<>(rows);
        changed.set(place, one);
        return changed;
    }

    private static long fraction(long above, long below, int part) {
        BigInteger g = BigInteger.valueOf(above).gcd(BigInteger.valueOf(below));
        return BigInteger.valueOf(part == 0 ? above : below).divide(g).longValueExact();
    }

    // ---- people, meetings

    int people(int n) {
        if (!within(n, 2, 6)) {
            return -2;
        }
        int was = w.n;
        w = new World(n, List.of(), w.delay, 0, 1, 0, List.of(), List.of(), List.of());
        return was;
    }

    int meet(int time, int i, int j, int sure) {
        if (!isPerson(w, i) || !isPerson(w, j) || i == j) {
            return -1;
        }
        if (!within(time, 0, 99) || !within(sure, 1, 100)) {
            return -2;
        }
        if (w.meetings.size() == 14) {
            return -4;
        }
        w = w.withMeetings(and(w.meetings, new Meeting(time, i, j, sure, false)));
        return w.meetings.size() - 1;
    }

    private int none(int m) {
        if (!within(m, 0, w.meetings.size() - 1)) {
            return -13;
        }
        return w.meetings.get(m).isDropped ? -11 : 0;
    }

    int drop(int m) {
        if (none(m) != 0) {
            return none(m);
        }
        w = w.withMeetings(with(w.meetings, m, dropped(w.meetings.get(m))));
        return there(w);
    }

    private static Meeting dropped(Meeting m) {
        return new Meeting(m.time, m.first, m.second, m.sure, true);
    }

    int renew(int m, int what, int v) {
        if (!within(what, 0, 1)) {
            return -1;
        }
        if (none(m) != 0) {
            return none(m);
        }
        if (what == 0 ? !within(v, 0, 99) : !within(v, 1, 100)) {
            return -2;
        }
        Meeting was = w.meetings.get(m);
        Meeting now = what == 0 ? new Meeting(v, was.first, was.second, was.sure, false)
            : new Meeting(was.time, was.first, was.second, v, false);
        w = w.withMeetings(with(w.meetings, m, now));
        return what == 0 ? was.time : was.sure;
    }

    int meeting(int m, int what) {
        if (!within(what, 0, 3)) {
            return -1;
        }
        if (none(m) != 0) {
            return none(m);
        }
        Meeting it = w.meetings.get(m);
        return new int[] {it.time, it.first, it.second, it.sure}[what];
    }

    int delay(int d) {
        if (!within(d, 0, 9)) {
            return -2;
        }
        int was = w.delay;
        w = w.withDelay(d);
        return was;
    }

    int ask(int from, int to, int start) {
        if (!isPerson(w, from) || !isPerson(w, to)) {
            return -1;
        }
        if (!within(start, 0, 99)) {
            return -2;
        }
        w = w.withQuestion(from, to, start);
        return ways(w).size();
    }

    int feed(int sign) {
        if (!within(sign, 0, 127)) {
            return -2;
        }
        if (text.length() == 100) {
            return -4;
        }
        text += (char) sign;
        return text.length();
    }

    // ---- THE TEXT

    private static final String CLAUSE = "(people \\d|meet \\d\\d? \\d \\d \\d\\d?\\d?|drop \\d\\d?|delay \\d"
        + "|ask \\d \\d \\d\\d?)";
    private static final Pattern SET_UP = Pattern.compile(CLAUSE + "(;" + CLAUSE + "){0,11}");
    private static final Set<String> WORDS = new TreeSet<>(List.of("people", "meet", "drop", "delay", "ask"));

    private static boolean beginsOne(String t) {
        Matcher m = SET_UP.matcher(t);
        return m.matches() || m.hitEnd();
    }

    private static int fault(String t) {
        if (SET_UP.matcher(t).matches()) {
            return -1;
        }
        int byByte = 0;
        while (byByte < t.length() && beginsOne(t.substring(0, byByte + 1))) {
            byByte++;
        }
        int place = 0;
        for (String clause : t.split(";", -1)) {
            String word = clause.replaceFirst("(?s)[^a-z].*", "");
            if (!WORDS.contains(word)) {
                return Math.min(place, byByte);
            }
            place += clause.length() + 1;
        }
        return byByte;
    }

    int read() {
        String t = text;
        text = "";
        int fault = fault(t);
        if (fault >= 0) {
            return -10 - fault;
        }
        int done = 0;
        for (String clause : t.split(";")) {
            String[] parts = clause.split(" ");
            int[] v = new int[5];
            for (int k = 1; k < parts.length; k++) {
                v[k] = Integer.parseInt(parts[k]);
            }
            int answer = switch (parts[0]) {
                case "people" -> people(v[1]);
                case "meet" -> meet(v[1], v[2], v[3], v[4]);
                case "drop" -> drop(v[1]);
                case "delay" -> delay(v[1]);
                default -> ask(v[1], v[2], v[3]);
            };
            done += answer >= 0 ? 1 : 0;
        }
        return done;
    }

    // ---- ways

    int way(int rule, int k) {
        if (!within(rule, 0, 2)) {
            return -2;
        }
        Way it = theWay(w, rule);
        if (it == null) {
            return -5;
        }
        if (k == -1) {
            return it.hands();
        }
        if (k == -2) {
            return it.arrival;
        }
        return within(k, 0, it.hands() - 1) ? it.row.get(k) : -1;
    }

    int holder(int rule, int k) {
        if (!within(rule, 0, 2)) {
            return -2;
        }
        Way it = theWay(w, rule);
        if (it == null) {
            return -5;
        }
        return within(k, 0, it.hands()) ? it.holders.get(k) : -1;
    }

    long sureness(int rule, int part) {
        Way it = within(rule, 0, 2) && within(part, 0, 1) ? theWay(w, rule) : null;
        if (it == null) {
            return NO;
        }
        return fraction(it.above.longValueExact(), it.below.longValueExact(), part);
    }

    int reach(int person) {
        return isPerson(w, person) ? reach(w, person) : -1;
    }

    int by(int k) {
        return within(k, 0, 5) ? leastArrival(ways(w), way -> way.hands() <= k) : -2;
    }

    int agenda(int k) {
        List<Integer> order = new ArrayList<>();
        for (int m = 0; m < w.meetings.size(); m++) {
            if (!w.meetings.get(m).isDropped) {
                order.add(m);
            }
        }
        World was = w;
        order.sort(Comparator.comparingInt(m -> was.meetings.get(m).time));
        return k < 0 ? -1 : k < order.size() ? order.get(k) : -5;
    }

    int rank(int k) {
        List<int[]> order = new ArrayList<>();
        for (int p = w.n - 1; p >= 0; p--) {
            int at = reach(w, p);
            if (at != -5) {
                order.add(new int[] {p, at});
            }
        }
        order.sort(Comparator.comparingInt(row -> row[1]));
        return k < 0 ? -1 : k < order.size() ? order.get(k)[0] : -5;
    }

    int between(int i, int j) {
        if (!isPerson(w, i) || !isPerson(w, j) || i == j) {
            return -1;
        }
        int bits = 0;
        for (int m = 0; m < w.meetings.size(); m++) {
            Meeting it = w.meetings.get(m);
            boolean isOfBoth = it.first == i && it.second == j || it.first == j && it.second == i;
            bits += isOfBoth && !it.isDropped ? (int) Math.pow(2, m) : 0;
        }
        return bits;
    }

    int told(int what) {
        return switch (what) {
            case 0 -> w.n;
            case 1 -> there(w);
            case 2 -> w.delay;
            case 3 -> w.from;
            case 4 -> w.to;
            case 5 -> w.start;
            case 6 -> ways(w).size();
            case 7 -> latest();
            case 8 -> points();
            case 9 -> leastCut();
            case 10 -> reached();
            case 11 -> w.meetings.size();
            default -> -1;
        };
    }

    private int latest() {
        int latest = -5;
        for (int start = 0; start < 100; start++) {
            if (!ways(w.withQuestion(w.from, w.to, start)).isEmpty()) {
                latest = start;
            }
        }
        return latest;
    }

    private int reached() {
        int bits = 0;
        for (int p = 0; p < w.n; p++) {
            bits += reach(w, p) == -5 ? 0 : (int) Math.pow(2, p);
        }
        return bits;
    }

    private static Set<Integer> setOf(int bits) {
        Set<Integer> set = new TreeSet<>();
        for (int p = 0; p < 31; p++) {
            if ((bits & 1 << p) != 0) {
                set.add(p);
            }
        }
        return set;
    }

    private boolean isOfOthers(int bits) {
        Set<Integer> set = setOf(bits);
        return bits >= 0 && !set.contains(w.from) && !set.contains(w.to) && set.stream().allMatch(p -> p < w.n);
    }

    private boolean isCut(List<Way> all, int bits) {
        return isOfOthers(bits) && all.stream().noneMatch(way -> Collections.disjoint(way.holders, setOf(bits)));
    }

    private int points() {
        List<Way> all = ways(w);
        int bits = 0;
        for (int p = 0; p < w.n; p++) {
            bits += isCut(all, 1 << p) ? 1 << p : 0;
        }
        return bits;
    }

    private int leastCut() {
        List<Way> all = ways(w);
        List<Integer> found = new ArrayList<>();
        for (int bits = 0; bits < 64; bits++) {
            if (isCut(all, bits)) {
                found.add(bits);
            }
        }
        found.sort(Comparator.comparingInt(Integer::bitCount));
        return found.isEmpty() ? -5 : found.get(0);
    }

    int cut(int bits) {
        return !isOfOthers(bits) ? -2 : isCut(ways(w), bits) ? 1 : 0;
    }

    // ---- seen, odds

    int see(int person, int time, boolean isReached) {
        if (person == -1) {
            w = w.withTold(List.of(), w.events, w.book);
            return 0;
        }
        if (!isPerson(w, person)) {
            return -1;
        }
        if (!within(time, 0, 99)) {
            return -2;
        }
        if (w.seen.size() == 6) {
            return -4;
        }
        w = w.withTold(and(w.seen, new Seen(person, time, isReached)), w.events, w.book);
        return w.seen.size();
    }

    int fits(int what) {
        List<Integer> fitting = new ArrayList<>();
        for (int start = 0; start <= 20; start++) {
            World then = w.withQuestion(w.from, w.to, start);
            if (w.seen.stream().allMatch(s -> s.isReached == within(reach(then, s.person), 0, s.time))) {
                fitting.add(start);
            }
        }
        return what == 0 ? fitting.size() : what != 1 ? -1 : fitting.isEmpty() ? -5 : fitting.get(0);
    }

    long odds(int part) {
        if (!within(part, 0, 1) || there(w) == 0) {
            return NO;
        }
        int still = 0;
        for (int m = 0; m < w.meetings.size(); m++) {
            Meeting it = w.meetings.get(m);
            if (!it.isDropped && !ways(w.withMeetings(with(w.meetings, m, dropped(it)))).isEmpty()) {
                still++;
            }
        }
        return fraction(still, there(w), part);
    }

    long mean(int part) {
        if (!within(part, 0, 1)) {
            return NO;
        }
        List<Integer> all = new ArrayList<>();
        for (int p = 0; p < w.n; p++) {
            if (reach(w, p) != -5) {
                all.add(reach(w, p));
            }
        }
        return fraction(all.stream().mapToInt(i -> i).sum(), all.size(), part);
    }

    // ---- events, books

    int event(int what, int n) {
        if (what == -1) {
            w = w.withTold(w.seen, List.of(), w.book);
            return 0;
        }
        if (!within(what, 0, 3) || what == 0 && !within(n, 0, w.meetings.size() - 1) || what == 2 && !isPerson(w, n)) {
            return -1;
        }
        if (what == 1 && !within(n, 0, 9) || what == 3 && !within(n, 0, 99)) {
            return -2;
        }
        if (w.events.size() == 8) {
            return -4;
        }
        w = w.withTold(w.seen, and(w.events, new Event(what, n)), w.book);
        return w.events.size();
    }

    private static World behind(World was, Event e) {
        List<Meeting> all = new ArrayList<>();
        for (int m = 0; m < was.meetings.size(); m++) {
            Meeting it = was.meetings.get(m);
            boolean isHit = e.what == 0 && e.n == m || e.what == 2 && (it.first == e.n || it.second == e.n);
            all.add(isHit ? dropped(it) : it);
        }
        World now = was.withMeetings(all);
        now = e.what == 1 ? now.withDelay(e.n) : now;
        return e.what == 3 ? now.withQuestion(now.from, now.to, e.n) : now;
    }

    int after(int what) {
        World then = w;
        for (Event e : w.events) {
            then = behind(then, e);
        }
        Way few = theWay(then, 1);
        return switch (what) {
            case 0 -> reach(then, then.to);
            case 1 -> few == null ? -5 : few.hands();
            case 2 -> ways(then).size();
            default -> -1;
        };
    }

    int book(int person, int time) {
        if (person == -1) {
            w = w.withTold(w.seen, w.events, List.of());
            return 0;
        }
        if (!isPerson(w, person)) {
            return -1;
        }
        if (!within(time, 0, 99)) {
            return -2;
        }
        if (w.book.size() == 8) {
            return -4;
        }
        w = w.withTold(w.seen, w.events, and(w.book, new Row(person, time)));
        return w.book.size();
    }

    int looked() {
        for (int r = 0; r < w.book.size(); r++) {
            if (reach(w, w.book.get(r).person) != w.book.get(r).time) {
                return r;
            }
        }
        return -5;
    }

    // ---- judging, the image, tapes

    int judge(int tape, int i) {
        if (!within(tape, 0, 5)) {
            return -1;
        }
        if (tapes[tape] != null && !(tapes[tape] instanceof byte[])) {
            return -12;
        }
        if (w.from == w.to) {
            return -5;
        }
        List<Integer> row = new ArrayList<>();
        if (tapes[tape] instanceof byte[] bytes && i >= 0) {
            for (int k = i; k < bytes.length; k++) {
                row.add((int) bytes[k]);
                List<Integer> held = holders(w, row);
                if (held == null) {
                    return row.size() - 1;
                }
                if (held.get(held.size() - 1) == w.to) {
                    return -5;
                }
            }
        }
        return 100 + row.size();
    }

    int image() {
        image = w;
        return there(w);
    }

    int undo() {
        if (image == null) {
            return -3;
        }
        w = image;
        return there(w);
    }

    int count(int what) {
        int[] all = {w.seen.size(), w.events.size(), w.book.size(), text.length()};
        return within(what, 0, 3) ? all[what] : -2;
    }

    int tape(int tape, int sort, int n) {
        if (!within(tape, 0, 5)) {
            return -1;
        }
        if (sort == -1) {
            tapes[tape] = null;
            return 1;
        }
        if (!within(sort, 0, 4) || n > 60) {
            return -2;
        }
        if (n < 0) {
            return -14;
        }
        tapes[tape] = switch (sort) {
            case 0 -> new byte[n];
            case 1 -> new short[n];
            case 2 -> new int[n];
            case 3 -> new long[n];
            default -> new boolean[n];
        };
        return 1;
    }

    int item(int tape, int i, long v) {
        if (!within(tape, 0, 5)) {
            return -1;
        }
        Object row = tapes[tape];
        if (row == null) {
            return -11;
        }
        if (!within(i, 0, java.lang.reflect.Array.getLength(row) - 1)) {
            return -13;
        }
        if (row instanceof byte[] a) {
            a[i] = (byte) v;
        } else if (row instanceof short[] a) {
            a[i] = (short) v;
        } else if (row instanceof int[] a) {
            a[i] = (int) v;
        } else if (row instanceof long[] a) {
            a[i] = v;
        } else if (row instanceof boolean[] a) {
            a[i] = v != 0;
        }
        return 1;
    }

    long peek(int tape, int i) {
        Object row = within(tape, 0, 5) ? tapes[tape] : null;
        if (row == null || !within(i, 0, java.lang.reflect.Array.getLength(row) - 1)) {
            return NO;
        }
        return row instanceof boolean[] a ? (a[i] ? 1 : 0) : java.lang.reflect.Array.getLong(row, i);
    }

    /** By what the host refuses: only here a test may lean on what the machine throws. */
    int shift(int tape, int i, int other, int j, int n) {
        if (!within(tape, 0, 5) || !within(other, 0, 5)) {
            return -1;
        }
        try {
            System.arraycopy(tapes[tape], i, tapes[other], j, n);
            return n;
        } catch (NullPointerException e) {
            return -11;
        } catch (ArrayStoreException e) {
            return -12;
        } catch (IndexOutOfBoundsException e) {
            return -13;
        }
    }
}
