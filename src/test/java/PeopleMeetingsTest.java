/** Promises 1 to 8: a new object, people, meet, drop, renew, meeting, delay, ask. */
public final class PeopleMeetingsTest {
    private static final int[] EDGES = {Integer.MIN_VALUE, -1, Integer.MAX_VALUE};

    public static void main(String[] args) {
        newObject();
        people();
        peopleEmptiesAllButDelayTextTapesAndImage();
        meet();
        meetIsFull();
        drop();
        renew();
        meeting();
        delay();
        ask();
        Check.end();
    }

    private static void newObject() {
        HandRelay x = new HandRelay();
        int[] due = {3, 0, 1, 0, 1, 0, 0, -5, 4, 0, 1, 0};
        for (int what = 0; what < due.length; what++) {
            Check.due("new: told " + what, x.told(what), due[what]);
        }
        for (int what = 0; what < 4; what++) {
            Check.due("new: count " + what, x.count(what), 0);
        }
        for (int tape = 0; tape < 6; tape++) {
            Check.due("new: item of " + tape, x.item(tape, 0, 1), -11);
        }
        Check.due("new: undo", x.undo(), -3);
    }

    private static void people() {
        HandRelay x = new HandRelay();
        for (int n : new int[] {1, 7, 0, -1, Integer.MIN_VALUE, Integer.MAX_VALUE}) {
            Check.due("people " + n, x.people(n), HandRelay.BAD);
            Check.due("people as they were", x.told(0), 3);
        }
        int was = 3;
        for (int n : new int[] {2, 6, 6, 5, 4, 3}) {
            Check.due("people " + n, x.people(n), was);
            Check.due("told 0", x.told(0), n);
            was = n;
        }
    }

    private static void peopleEmptiesAllButDelayTextTapesAndImage() {
        HandRelay x = new HandRelay();
        x.meet(1, 0, 1, 50);
        x.meet(2, 1, 2, 50);
        x.drop(0);
        x.delay(4);
        x.ask(2, 0, 7);
        x.see(0, 5, true);
        x.event(1, 3);
        x.book(0, 4);
        x.feed(65);
        x.tape(2, 1, 3);
        x.image();
        Check.due("people, as it was", x.people(3), 3);
        int[] due = {3, 0, 4, 0, 1, 0, 0, -5, 4, 0, 1, 0};
        for (int what = 0; what < due.length; what++) {
            Check.due("behind people: told " + what, x.told(what), due[what]);
        }
        Check.due("SEEN is empty", x.count(0), 0);
        Check.due("EVENTS are empty", x.count(1), 0);
        Check.due("the BOOK is empty", x.count(2), 0);
        Check.due("THE TEXT stays", x.count(3), 1);
        Check.due("the TAPE stays", x.peek(2, 2), 0);
        Check.due("numbers begin anew", x.meet(9, 0, 1, 9), 0);
        Check.due("it isn't DROPPED", x.meeting(0, 0), 9);
        Check.due("THE IMAGE stays", x.undo(), 1);
    }

    private static void meet() {
        HandRelay x = new HandRelay();
        Check.due("meet", x.meet(0, 0, 1, 1), 0);
        Check.due("meet", x.meet(99, 2, 0, 100), 1);
        Check.due("meet", x.meet(50, 1, 2, 50), 2);
        Check.due("one twice", x.meet(0, 1, 1, 1), -1);
        Check.due("none ahead of bad", x.meet(100, 1, 1, 101), -1);
        Check.due("no such i", x.meet(0, 3, 1, 1), -1);
        Check.due("no such j", x.meet(0, 1, 3, 1), -1);
        for (int edge : EDGES) {
            Check.due("i " + edge, x.meet(0, edge, 1, 1), -1);
            Check.due("j " + edge, x.meet(0, 1, edge, 1), -1);
            Check.due("time " + edge, x.meet(edge, 0, 1, 1), -2);
            Check.due("sure " + edge, x.meet(0, 0, 1, edge), -2);
        }
        Check.due("time 100", x.meet(100, 0, 1, 1), -2);
        Check.due("sure 0", x.meet(0, 0, 1, 0), -2);
        Check.due("sure 101", x.meet(0, 0, 1, 101), -2);
        Check.due("came", x.told(11), 3);
        Check.due("the next", x.meet(0, 0, 1, 1), 3);
    }

    private static void meetIsFull() {
        HandRelay x = new HandRelay();
        for (int m = 0; m < 14; m++) {
            Check.due("meet " + m, x.meet(m, 0, 1, 10), m);
        }
        Check.due("the fifteenth", x.meet(0, 0, 1, 10), HandRelay.FULL);
        Check.due("NONE ahead of FULL", x.meet(0, 0, 3, 10), HandRelay.NONE);
        Check.due("BAD ahead of FULL", x.meet(100, 0, 1, 10), HandRelay.BAD);
        Check.due("drop", x.drop(13), 13);
        Check.due("full also with one DROPPED", x.meet(0, 0, 1, 10), HandRelay.FULL);
        Check.due("as they were", x.meeting(12, 0), 12);
    }

    private static void drop() {
        HandRelay x = new HandRelay();
        Check.due("none came", x.drop(0), -13);
        x.meet(1, 0, 1, 10);
        x.meet(2, 0, 1, 20);
        x.meet(3, 0, 1, 30);
        for (int edge : EDGES) {
            Check.due("drop " + edge, x.drop(edge), -13);
        }
        Check.due("drop 3", x.drop(3), -13);
        Check.due("drop 1", x.drop(1), 2);
        Check.due("drop 1 again", x.drop(1), -11);
        Check.due("told 1", x.told(1), 2);
        Check.due("told 11", x.told(11), 3);
        Check.due("a new number", x.meet(4, 0, 1, 40), 3);
        Check.due("drop 0", x.drop(0), 2);
        Check.due("drop 2", x.drop(2), 1);
        Check.due("drop 3", x.drop(3), 0);
        Check.due("no WAY", x.told(6), 0);
    }

    private static void renew() {
        HandRelay x = new HandRelay();
        x.meet(1, 0, 1, 10);
        x.meet(2, 0, 1, 20);
        x.drop(1);
        Check.due("time", x.renew(0, 0, 99), 1);
        Check.due("time", x.renew(0, 0, 0), 99);
        Check.due("sure", x.renew(0, 1, 100), 10);
        Check.due("sure", x.renew(0, 1, 1), 100);
        Check.due("time is 0", x.meeting(0, 0), 0);
        Check.due("sure is 1", x.meeting(0, 3), 1);
        Check.due("its first", x.meeting(0, 1), 0);
        Check.due("its second", x.meeting(0, 2), 1);
        for (int edge : EDGES) {
            Check.due("what " + edge, x.renew(0, edge, 5), -1);
            Check.due("meeting " + edge, x.renew(edge, 0, 5), -13);
            Check.due("time " + edge, x.renew(0, 0, edge), -2);
            Check.due("sure " + edge, x.renew(0, 1, edge), -2);
        }
        Check.due("what 2", x.renew(0, 2, 5), -1);
        Check.due("NONE ahead of PLACE", x.renew(2, 2, -1), -1);
        Check.due("NONE ahead of NOTHING", x.renew(1, 2, -1), -1);
        Check.due("PLACE ahead of BAD", x.renew(2, 0, 100), -13);
        Check.due("NOTHING ahead of BAD", x.renew(1, 0, 100), -11);
        Check.due("DROPPED", x.renew(1, 1, 5), -11);
        Check.due("time 100", x.renew(0, 0, 100), -2);
        Check.due("sure 0", x.renew(0, 1, 0), -2);
        Check.due("sure 101", x.renew(0, 1, 101), -2);
        Check.due("nothing changed", x.meeting(0, 0) * 1000 + x.meeting(0, 3), 1);
    }

    private static void meeting() {
        HandRelay x = new HandRelay();
        x.meet(7, 2, 1, 60);
        x.meet(8, 0, 1, 70);
        x.drop(1);
        int[] due = {7, 2, 1, 60};
        for (int what = 0; what < 4; what++) {
            Check.due("meeting 0 " + what, x.meeting(0, what), due[what]);
        }
        for (int edge : EDGES) {
            Check.due("what " + edge, x.meeting(0, edge), -1);
            Check.due("meeting " + edge, x.meeting(edge, 0), -13);
        }
        Check.due("what 4", x.meeting(0, 4), -1);
        Check.due("NONE ahead of PLACE", x.meeting(2, 4), -1);
        Check.due("NONE ahead of NOTHING", x.meeting(1, 4), -1);
        Check.due("none such", x.meeting(2, 0), -13);
        Check.due("DROPPED", x.meeting(1, 3), -11);
    }

    private static void delay() {
        HandRelay x = new HandRelay();
        Check.due("delay 0", x.delay(0), 1);
        Check.due("delay 9", x.delay(9), 0);
        for (int edge : EDGES) {
            Check.due("delay " + edge, x.delay(edge), -2);
        }
        Check.due("delay 10", x.delay(10), -2);
        Check.due("told 2", x.told(2), 9);
        Check.due("delay 5", x.delay(5), 9);
    }

    private static void ask() {
        HandRelay x = new HandRelay();
        x.meet(5, 0, 1, 10);
        x.meet(6, 1, 2, 10);
        x.meet(7, 0, 2, 10);
        Check.due("0 to 2", x.ask(0, 2, 0), 2);
        Check.due("at 5", x.ask(0, 2, 5), 2);
        Check.due("at 6", x.ask(0, 2, 6), 1);
        Check.due("at 7", x.ask(0, 2, 7), 1);
        Check.due("at 8", x.ask(0, 2, 8), 0);
        Check.due("at 99", x.ask(0, 2, 99), 0);
        Check.due("2 to 0, by 7 or by 6 and none behind it", x.ask(2, 0, 0), 1);
        Check.due("to itself", x.ask(2, 2, 99), 1);
        for (int edge : EDGES) {
            Check.due("from " + edge, x.ask(edge, 1, 0), -1);
            Check.due("to " + edge, x.ask(1, edge, 0), -1);
            Check.due("start " + edge, x.ask(0, 1, edge), -2);
        }
        Check.due("from 3", x.ask(3, 1, 0), -1);
        Check.due("to 3", x.ask(0, 3, 0), -1);
        Check.due("NONE ahead of BAD", x.ask(0, 3, 100), -1);
        Check.due("start 100", x.ask(0, 1, 100), -2);
        Check.due("FROM as it was", x.told(3), 2);
        Check.due("TO as it was", x.told(4), 2);
        Check.due("START as it was", x.told(5), 99);
        Check.due("ask", x.ask(1, 0, 6), 1);
        Check.due("FROM", x.told(3), 1);
        Check.due("TO", x.told(4), 0);
        Check.due("START", x.told(5), 6);
    }
}
