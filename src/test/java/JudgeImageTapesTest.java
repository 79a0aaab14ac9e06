/** Promises 29 to 36: judge, image, undo, count, tape, item, peek, shift. */
public final class JudgeImageTapesTest {
    private static final int BYTES = 0, SHORTS = 1, INTS = 2, LONGS = 3, BOOLEANS = 4;
    private static final int[] NO_TAPES = {-1, 6, Integer.MIN_VALUE, Integer.MAX_VALUE};

    public static void main(String[] args) {
        judgeRefusals();
        judge();
        judgeToItself();
        image();
        undoOfEverything();
        count();
        tape();
        item();
        peek();
        shift();
        shiftWithinOne();
        shiftRefusals();
        Check.end();
    }

    private static void fill(HandRelay x, int tape, int... items) {
        x.tape(tape, BYTES, items.length);
        for (int i = 0; i < items.length; i++) {
            x.item(tape, i, items[i]);
        }
    }

    private static HandRelay fourInARow() {
        HandRelay x = new HandRelay();
        x.people(4);
        x.meet(2, 0, 1, 10);
        x.meet(5, 2, 1, 10);
        x.meet(7, 2, 3, 10);
        x.meet(5, 1, 0, 10);
        x.meet(6, 3, 2, 10);
        x.meet(4, 1, 2, 10);
        x.meet(9, 1, 3, 10);
        x.drop(5);
        x.delay(2);
        x.ask(0, 3, 2);
        return x;
    }

    private static void judgeRefusals() {
        HandRelay x = fourInARow();
        for (int tape : NO_TAPES) {
            Check.due("judge " + tape, x.judge(tape, 0), -1);
        }
        for (int sort = SHORTS; sort <= BOOLEANS; sort++) {
            x.tape(5, sort, 2);
            Check.due("judge a row of sort " + sort, x.judge(5, 0), -12);
            Check.due("CAST ahead of the place", x.judge(5, -1), -12);
        }
        x.tape(5, INTS, 0);
        Check.due("CAST also if it is empty", x.judge(5, 0), -12);
        Check.due("it holds nothing", x.judge(4, 0), 100);
        Check.due("it holds nothing, no place", x.judge(4, -1), 100);
        x.tape(5, BYTES, 0);
        Check.due("an empty row", x.judge(5, 0), 100);
    }

    private static void judge() {
        HandRelay x = fourInARow();
        fill(x, 0, 0, 1, 2);
        Check.due("it comes to TO", x.judge(0, 0), -5);
        Check.due("from 1 on: not of FROM", x.judge(0, 1), 0);
        for (int place : new int[] {3, 4, 60, Integer.MAX_VALUE}) {
            Check.due("from " + place + " on", x.judge(0, place), 100);
        }
        for (int place : new int[] {-1, Integer.MIN_VALUE}) {
            Check.due("from " + place + " on", x.judge(0, place), 100);
        }
        fill(x, 0, 0, 1);
        Check.due("it ends ahead of that", x.judge(0, 0), 102);
        fill(x, 0, 0, 1, 2, 99, -1);
        Check.due("what is behind TO isn't looked at", x.judge(0, 0), -5);
        fill(x, 0, 9, 9, 0, 6);
        Check.due("from 2 on", x.judge(0, 2), -5);
        fill(x, 0, 0, 7);
        Check.due("no such MEETING", x.judge(0, 0), 1);
        fill(x, 0, 0, -1);
        Check.due("none below 0", x.judge(0, 0), 1);
        fill(x, 0, 0, 127);
        Check.due("none so great", x.judge(0, 0), 1);
        fill(x, 0, 0, 5);
        Check.due("DROPPED", x.judge(0, 0), 1);
        fill(x, 0, 0, 2);
        Check.due("not of who HOLDS it", x.judge(0, 0), 1);
        fill(x, 0, 0, 1, 4);
        Check.due("too early by 1", x.judge(0, 0), 2);
        fill(x, 0, 0, 3);
        Check.due("to FROM again", x.judge(0, 0), 1);
        x.renew(4, 0, 9);
        x.meet(99, 2, 1, 10);
        fill(x, 0, 0, 1, 7);
        Check.due("to one who had it", x.judge(0, 0), 2);
        x.ask(0, 3, 3);
        fill(x, 0, 0, 1);
        Check.due("ahead of START", x.judge(0, 0), 0);
        x.people(3);
        x.meet(1, 0, 1, 5);
        x.meet(3, 1, 2, 5);
        x.ask(0, 2, 0);
        fill(x, 1, 3, 0, 0, 1);
        Check.due("the same MEETING again", x.judge(1, 1), 1);
        Check.due("from 2 on", x.judge(1, 2), -5);
        x.event(0, 0);
        Check.due("EVENTS don't matter", x.judge(1, 2), -5);
    }

    private static void judgeToItself() {
        HandRelay x = new HandRelay();
        x.ask(1, 1, 5);
        x.tape(2, INTS, 3);
        fill(x, 3, 7, 7);
        Check.due("also if it holds nothing", x.judge(0, 0), -5);
        Check.due("also with no such place", x.judge(0, -1), -5);
        Check.due("also with a wrong first", x.judge(3, 0), -5);
        Check.due("NONE goes ahead", x.judge(6, 0), -1);
        Check.due("CAST goes ahead", x.judge(2, 0), -12);
    }

    private static void image() {
        HandRelay x = new HandRelay();
        Check.due("no image yet", x.undo(), HandRelay.STATE);
        Check.due("image", x.image(), 0);
        x.meet(1, 0, 1, 10);
        x.meet(2, 0, 1, 10);
        x.drop(0);
        Check.due("image", x.image(), 1);
        x.meet(3, 0, 1, 10);
        Check.due("undo", x.undo(), 1);
        Check.due("came", x.told(11), 2);
        Check.due("DROPPED still", x.meeting(0, 0), -11);
        x.drop(1);
        Check.due("undo again", x.undo(), 1);
        Check.due("there again", x.meeting(1, 0), 2);
        Check.due("the next number", x.meet(4, 0, 1, 10), 2);
    }

    private static void undoOfEverything() {
        HandRelay x = new HandRelay();
        x.people(5);
        x.meet(1, 0, 4, 10);
        x.meet(3, 4, 2, 20);
        x.delay(2);
        x.ask(0, 2, 1);
        x.see(4, 1, true);
        x.see(2, 1, false);
        x.event(1, 3);
        x.book(2, 3);
        x.book(1, 3);
        x.image();
        x.renew(0, 0, 50);
        x.renew(1, 1, 99);
        x.see(-1, 0, true);
        x.see(1, 0, false);
        x.event(-1, 0);
        x.event(3, 0);
        x.event(3, 99);
        x.book(-1, 0);
        x.people(2);
        x.delay(7);
        x.meet(9, 0, 1, 90);
        x.ask(1, 0, 9);
        x.feed('q');
        x.tape(1, LONGS, 1);
        x.item(1, 0, 42);
        Check.due("undo", x.undo(), 2);
        int[] due = {5, 2, 2, 0, 2, 1, 1, 1, 16, 16, 21, 2};
        for (int what = 0; what < due.length; what++) {
            Check.due("told " + what, x.told(what), due[what]);
        }
        int[] first = {1, 0, 4, 10};
        int[] second = {3, 4, 2, 20};
        for (int what = 0; what < 4; what++) {
            Check.due("meeting 0 " + what, x.meeting(0, what), first[what]);
            Check.due("meeting 1 " + what, x.meeting(1, what), second[what]);
        }
        Check.due("SEEN", x.count(0), 2);
        Check.due("FITS", x.fits(0), 2);
        Check.due("EVENTS", x.count(1), 1);
        Check.due("AFTER", x.after(0), -5);
        x.renew(1, 0, 4);
        Check.due("AFTER, as DELAY is 3", x.after(0), 4);
        x.undo();
        Check.due("the BOOK", x.count(2), 2);
        Check.due("LOOKED at", x.looked(), 1);
        Check.due("THE TEXT isn't in it", x.count(3), 1);
        Check.due("TAPES aren't in it", x.peek(1, 0), 42);
    }

    private static void count() {
        HandRelay x = new HandRelay();
        x.see(0, 0, true);
        x.event(1, 1);
        x.event(1, 1);
        for (int k = 0; k < 3; k++) {
            x.book(0, 0);
        }
        for (int k = 0; k < 4; k++) {
            x.feed(0);
        }
        for (int what = 0; what < 4; what++) {
            Check.due("count " + what, x.count(what), what + 1);
        }
        for (int what : new int[] {-1, 4, Integer.MIN_VALUE, Integer.MAX_VALUE}) {
            Check.due("count " + what, x.count(what), -2);
        }
    }

    private static void tape() {
        HandRelay x = new HandRelay();
        for (int tape : NO_TAPES) {
            Check.due("tape " + tape, x.tape(tape, 0, 1), -1);
            Check.due("tape " + tape + " ahead of all", x.tape(tape, 9, -9), -1);
        }
        for (int sort : new int[] {-2, 5, Integer.MIN_VALUE, Integer.MAX_VALUE}) {
            Check.due("sort " + sort, x.tape(0, sort, 1), -2);
            Check.due("BAD ahead of SIZE", x.tape(0, sort, -1), -2);
        }
        for (int n : new int[] {61, Integer.MAX_VALUE}) {
            Check.due("n " + n, x.tape(0, 0, n), -2);
        }
        for (int n : new int[] {-1, Integer.MIN_VALUE}) {
            Check.due("n " + n, x.tape(0, 0, n), -14);
        }
        Check.due("nothing came", x.item(0, 0, 1), -11);
        for (int sort = BYTES; sort <= BOOLEANS; sort++) {
            sixty(sort);
        }
        x.tape(3, LONGS, 60);
        x.item(3, 59, 1);
        Check.due("anew", x.tape(3, LONGS, 60), 1);
        Check.due("all 0 again", x.peek(3, 59), 0);
        Check.due("empty", x.tape(3, LONGS, 0), 1);
        Check.due("an empty row is no nothing", x.item(3, 0, 1), -13);
        for (int n : new int[] {0, -1, 61, Integer.MIN_VALUE, Integer.MAX_VALUE}) {
            x.tape(4, BYTES, 3);
            Check.due("nothing, n " + n, x.tape(4, -1, n), 1);
            Check.due("it holds nothing", x.item(4, 0, 1), -11);
        }
        x.tape(5, BYTES, 3);
        x.item(5, 2, 9);
        Check.due("a refused one", x.tape(5, BYTES, 61), -2);
        Check.due("changes nothing", x.peek(5, 2), 9);
    }

    private static void sixty(int sort) {
        HandRelay x = new HandRelay();
        Check.due("sort " + sort, x.tape(sort, sort, 60), 1);
        for (int i = 0; i < 60; i++) {
            Check.due("a nought", x.peek(sort, i), 0);
            Check.due("item " + i, x.item(sort, i, 1), 1);
            Check.due("a one", x.peek(sort, i), 1);
        }
        Check.due("no more", x.peek(sort, 60), Check.NO);
    }

    private static void item() {
        HandRelay x = new HandRelay();
        for (int tape : NO_TAPES) {
            Check.due("item of " + tape, x.item(tape, 0, 1), -1);
        }
        Check.due("NOTHING ahead of PLACE", x.item(0, -1, 1), -11);
        long[] values = {0, 1, -1, 127, 128, 255, 256, 32767, 32768, 65536, 0x7fffffffL, 0x80000000L,
            0x100000000L, Long.MAX_VALUE, Long.MIN_VALUE, 0x123456789abcdef0L};
        for (int sort = BYTES; sort <= BOOLEANS; sort++) {
            x.tape(0, sort, 2);
            for (long v : values) {
                Check.due("item", x.item(0, 1, v), 1);
                Check.due("sort " + sort + ", " + v, x.peek(0, 1), held(sort, v));
                Check.due("beside it", x.peek(0, 0), 0);
            }
            for (int i : new int[] {-1, 2, 60, Integer.MIN_VALUE, Integer.MAX_VALUE}) {
                Check.due("item " + i, x.item(0, i, 1), -13);
            }
        }
    }

    private static long held(int sort, long v) {
        long[] due = {(byte) v, (short) v, (int) v, v, v != 0 ? 1 : 0};
        return due[sort];
    }

    private static void peek() {
        HandRelay x = new HandRelay();
        for (int tape : NO_TAPES) {
            Check.due("peek of " + tape, x.peek(tape, 0), Check.NO);
        }
        Check.due("nothing there", x.peek(0, 0), Check.NO);
        fill(x, 5, 3, -4);
        Check.due("peek 0", x.peek(5, 0), 3);
        Check.due("peek 1", x.peek(5, 1), -4);
        for (int i : new int[] {-1, 2, 60, Integer.MIN_VALUE, Integer.MAX_VALUE}) {
            Check.due("peek " + i, x.peek(5, i), Check.NO);
        }
    }

    private static void items(HandRelay x, String name, int tape, int... due) {
        for (int i = 0; i < due.length; i++) {
            Check.due(name + ": item " + i, x.peek(tape, i), due[i]);
        }
        Check.due(name + ": end", x.peek(tape, due.length), Check.NO);
    }

    private static void shift() {
        HandRelay x = new HandRelay();
        fill(x, 0, 1, 2, 3, 4, 5);
        fill(x, 5, 6, 7, 8);
        Check.due("two", x.shift(0, 1, 5, 1, 2), 2);
        items(x, "to", 5, 6, 2, 3);
        items(x, "from", 0, 1, 2, 3, 4, 5);
        Check.due("up to both ends", x.shift(0, 2, 5, 0, 3), 3);
        items(x, "to", 5, 3, 4, 5);
        Check.due("none at the ends", x.shift(0, 5, 5, 3, 0), 0);
        Check.due("none", x.shift(0, 0, 5, 0, 0), 0);
        items(x, "as it was", 5, 3, 4, 5);
        for (int sort = SHORTS; sort <= BOOLEANS; sort++) {
            x.tape(1, sort, 2);
            x.tape(2, sort, 2);
            x.item(1, 0, -1);
            Check.due("sort " + sort, x.shift(1, 0, 2, 1, 1), 1);
            Check.due("sort " + sort, x.peek(2, 1), sort == BOOLEANS ? 1 : -1);
        }
    }

    private static void shiftWithinOne() {
        HandRelay x = new HandRelay();
        fill(x, 3, 1, 2, 3, 4, 5);
        Check.due("up", x.shift(3, 0, 3, 1, 4), 4);
        items(x, "up", 3, 1, 1, 2, 3, 4);
        fill(x, 3, 1, 2, 3, 4, 5);
        Check.due("down", x.shift(3, 2, 3, 0, 3), 3);
        items(x, "down", 3, 3, 4, 5, 4, 5);
        Check.due("on itself", x.shift(3, 0, 3, 0, 5), 5);
        items(x, "on itself", 3, 3, 4, 5, 4, 5);
    }

    private static void shiftRefusals() {
        HandRelay x = new HandRelay();
        fill(x, 0, 1, 2, 3);
        fill(x, 1, 4, 5);
        x.tape(2, INTS, 3);
        for (int tape : NO_TAPES) {
            Check.due("from " + tape, x.shift(tape, 0, 0, 0, 1), -1);
            Check.due("to " + tape, x.shift(0, 0, tape, 0, 1), -1);
            Check.due("NONE ahead of NOTHING", x.shift(5, 0, tape, 0, 1), -1);
        }
        Check.due("from nothing", x.shift(5, 0, 0, 0, 1), -11);
        Check.due("to nothing", x.shift(0, 0, 5, 0, 1), -11);
        Check.due("NOTHING ahead of PLACE", x.shift(0, -1, 5, 0, 1), -11);
        Check.due("unlike sorts", x.shift(0, 0, 2, 0, 1), -12);
        Check.due("CAST ahead of PLACE", x.shift(2, 0, 0, 9, -1), -12);
        int[][] places = {
            {0, 0, -1}, {-1, 0, 1}, {0, -1, 1}, {-1, 0, 0}, {0, -1, 0}, {4, 0, 0}, {0, 3, 0}, {0, 0, 3}, {1, 0, 3},
            {2, 0, 2}, {0, 1, 2}, {0, 2, 1}, {3, 0, 1},
            {Integer.MAX_VALUE, 0, 1}, {0, Integer.MAX_VALUE, 1}, {0, 0, Integer.MAX_VALUE},
            {Integer.MAX_VALUE, 0, Integer.MAX_VALUE}, {Integer.MIN_VALUE, 0, 1}, {0, Integer.MIN_VALUE, 1},
            {0, 0, Integer.MIN_VALUE}, {1, 1, Integer.MAX_VALUE},
        };
        for (int[] p : places) {
            Check.due("shift " + p[0] + " " + p[1] + " " + p[2], x.shift(0, p[0], 1, p[1], p[2]), -13);
        }
        items(x, "as it was", 0, 1, 2, 3);
        items(x, "as it was", 1, 4, 5);
    }
}
