/** Promises 25 to 28: event, after, book, looked. */
public final class EventsBookTest {
    private static final int[] EDGES = {-1, Integer.MIN_VALUE, Integer.MAX_VALUE};

    public static void main(String[] args) {
        event();
        eventIsFull();
        after();
        handsAreByFew();
        afterIsOfNow();
        afterToItself();
        book();
        looked();
        Check.end();
    }

    private static void event() {
        HandRelay x = new HandRelay();
        x.meet(1, 0, 1, 10);
        x.meet(2, 0, 1, 10);
        x.drop(1);
        Check.due("none then", x.event(-1, 77), 0);
        for (int edge : EDGES) {
            Check.due("meeting " + edge, x.event(0, edge), -1);
            Check.due("delay " + edge, x.event(1, edge), -2);
            Check.due("person " + edge, x.event(2, edge), -1);
            Check.due("start " + edge, x.event(3, edge), -2);
        }
        for (int what : new int[] {-2, 4, Integer.MIN_VALUE, Integer.MAX_VALUE}) {
            Check.due("what " + what, x.event(what, 0), -1);
        }
        Check.due("meeting 2", x.event(0, 2), -1);
        Check.due("delay 10", x.event(1, 10), -2);
        Check.due("person 3", x.event(2, 3), -1);
        Check.due("start 100", x.event(3, 100), -2);
        Check.due("nothing came", x.count(1), 0);
        Check.due("a MEETING", x.event(0, 0), 1);
        Check.due("a DROPPED MEETING", x.event(0, 1), 2);
        Check.due("delay 0", x.event(1, 0), 3);
        Check.due("delay 9", x.event(1, 9), 4);
        Check.due("person 0", x.event(2, 0), 5);
        Check.due("person 2", x.event(2, 2), 6);
        Check.due("start 0", x.event(3, 0), 7);
        Check.due("start 99", x.event(3, 99), 8);
    }

    private static void eventIsFull() {
        HandRelay x = new HandRelay();
        for (int k = 1; k <= 8; k++) {
            Check.due("event " + k, x.event(1, 1), k);
        }
        Check.due("the ninth", x.event(1, 1), -4);
        Check.due("NONE ahead of FULL", x.event(0, 0), -1);
        Check.due("BAD ahead of FULL", x.event(1, 10), -2);
        Check.due("count", x.count(1), 8);
        Check.due("none then", x.event(-1, 0), 0);
        Check.due("count", x.count(1), 0);
    }

    private static void after(HandRelay x, String name, int reach, int hands, int ways) {
        Check.due(name + ": REACH", x.after(0), reach);
        Check.due(name + ": HANDS", x.after(1), hands);
        Check.due(name + ": WAYS", x.after(2), ways);
    }

    private static void after() {
        HandRelay x = new HandRelay();
        x.people(4);
        x.meet(2, 0, 1, 10);
        x.meet(4, 1, 3, 10);
        x.meet(9, 0, 3, 10);
        x.meet(3, 0, 2, 10);
        x.meet(8, 2, 3, 10);
        x.ask(0, 3, 0);
        after(x, "no EVENTS", 4, 1, 3);
        x.event(1, 3);
        after(x, "DELAY 3", 8, 1, 2);
        x.event(2, 2);
        after(x, "without 2", 9, 1, 1);
        x.event(1, 2);
        after(x, "DELAY 2 behind it", 4, 1, 2);
        x.event(0, 2);
        after(x, "without the straight one", 4, 2, 1);
        x.event(3, 2);
        after(x, "START 2", 4, 2, 1);
        x.event(3, 3);
        after(x, "START 3", -5, -5, 0);
        x.event(3, 0);
        after(x, "START 0 again", 4, 2, 1);
        x.event(0, 2);
        after(x, "the same again", 4, 2, 1);
        Check.due("told 1 stays", x.told(1), 5);
        Check.due("DELAY stays", x.told(2), 1);
        Check.due("START stays", x.told(5), 0);
        Check.due("WAYS stay", x.told(6), 3);
        for (int what : new int[] {-1, 3, Integer.MIN_VALUE, Integer.MAX_VALUE}) {
            Check.due("what " + what, x.after(what), -1);
        }
        x.event(-1, 0);
        after(x, "none again", 4, 1, 3);
    }

    private static void handsAreByFew() {
        HandRelay x = new HandRelay();
        x.meet(1, 0, 1, 100);
        x.meet(3, 1, 2, 100);
        x.meet(9, 0, 2, 5);
        x.ask(0, 2, 0);
        after(x, "neither EARLY nor SUREST", 3, 1, 2);
    }

    private static void afterIsOfNow() {
        HandRelay x = new HandRelay();
        x.event(2, 1);
        x.meet(5, 0, 1, 10);
        after(x, "of PERSON 1, also what came behind", -5, -5, 0);
        x.ask(0, 2, 0);
        x.meet(6, 0, 2, 10);
        after(x, "not of 1", 6, 1, 1);
        x.event(2, 0);
        after(x, "of FROM", -5, -5, 0);
    }

    private static void afterToItself() {
        HandRelay x = new HandRelay();
        x.ask(2, 2, 8);
        after(x, "FROM is TO", 8, 0, 1);
        x.event(2, 2);
        x.event(3, 33);
        after(x, "FROM is TO, START 33", 33, 0, 1);
    }

    private static void book() {
        HandRelay x = new HandRelay();
        Check.due("empty then", x.book(-1, 100), 0);
        for (int edge : new int[] {-2, Integer.MIN_VALUE, Integer.MAX_VALUE}) {
            Check.due("person " + edge, x.book(edge, 0), -1);
            Check.due("time " + edge, x.book(0, edge), -2);
        }
        Check.due("person 3", x.book(3, 0), -1);
        Check.due("NONE ahead of BAD", x.book(3, -1), -1);
        Check.due("time -1", x.book(0, -1), -2);
        Check.due("time 100", x.book(0, 100), -2);
        Check.due("nothing came", x.count(2), 0);
        for (int k = 1; k <= 8; k++) {
            Check.due("book " + k, x.book(k % 3, k == 1 ? 0 : 99), k);
        }
        Check.due("the ninth", x.book(0, 0), -4);
        Check.due("NONE ahead of FULL", x.book(3, 0), -1);
        Check.due("BAD ahead of FULL", x.book(0, 100), -2);
        Check.due("count", x.count(2), 8);
        Check.due("empty then", x.book(-1, 0), 0);
        Check.due("count", x.count(2), 0);
    }

    private static void looked() {
        HandRelay x = new HandRelay();
        x.meet(5, 0, 1, 10);
        x.ask(0, 1, 2);
        Check.due("empty", x.looked(), -5);
        x.book(0, 2);
        x.book(1, 5);
        x.book(1, 5);
        Check.due("all are so", x.looked(), -5);
        x.book(1, 6);
        x.book(2, 0);
        Check.due("the fourth isn't", x.looked(), 3);
        x.renew(0, 0, 6);
        Check.due("the second isn't", x.looked(), 1);
        x.ask(0, 1, 3);
        Check.due("the first isn't", x.looked(), 0);
        x.book(-1, 0);
        x.book(2, 0);
        Check.due("2 has no REACH", x.looked(), 0);
    }
}
