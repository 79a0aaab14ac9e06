/** Promises 1 to 36 in long runs of mixed calls, each answer held against Model's. The runs are the same each time. */
public final class ModelTest {
    private static final String[] FRAGMENTS = {
        "people ", "meet ", "drop ", "delay ", "ask ", ";", " ", "0", "1", "2", "5", "9", "10", "77", "100", "x", "meet", "ask",
    };

    private static Numbers numbers;
    private static HandRelay x;
    private static Model y;
    private static String run;

    public static void main(String[] args) {
        int runs = args.length > 0 ? Integer.parseInt(args[0]) : 400;
        long first = args.length > 1 ? Long.parseLong(args[1]) : 1;
        for (int r = 0; r < runs; r++) {
            numbers = new Numbers((first + r) * 0x9e3779b97f4a7c15L);
            x = new HandRelay();
            y = new Model();
            run = "run " + (first + r);
            oneRun();
        }
        Check.end();
    }

    private static void oneRun() {
        int calls = 0;
        if (upTo(4) > 0) {
            calls = settle();
        }
        while (calls < 512) {
            calls++;
            call(upTo(42));
        }
    }

    /** Many MEETINGS soon, so that the questions behind them have many WAYS to choose from. */
    private static int settle() {
        int people = between(3, 6);
        due("people " + people, x.people(people), y.people(people));
        int spread = between(3, 30);
        int calls = 1;
        for (int m = between(4, 14); m > 0; m--) {
            calls++;
            meet(upTo(spread), upTo(people), upTo(people), between(1, 4) * 25);
        }
        int d = upTo(4);
        due("delay " + d, x.delay(d), y.delay(d));
        int to = upTo(people);
        due("ask 0 " + to, x.ask(0, to, 0), y.ask(0, to, 0));
        return calls + 2;
    }

    private static void call(int which) {
        if (which < 10) {
            change(which);
        } else if (which < 30) {
            question(which);
        } else {
            tapes(which);
        }
    }

    private static void change(int which) {
        int a = near(6);
        int b = near(6);
        switch (which) {
            case 0 -> rarePeople(near(8));
            case 1, 2 -> meet(near(30), a, b, near(100));
            case 3 -> rareDrop(near(15));
            case 4 -> renew(near(15), upTo(10) == 0 ? near(4) : upTo(2), near(40));
            case 5 -> delay(near(10));
            case 6 -> {
                int start = upTo(3) == 0 ? near(100) : upTo(12);
                due("ask " + a + " " + b + " " + start, x.ask(a, b, start), y.ask(a, b, start));
            }
            case 7 -> text();
            case 8 -> due("image", x.image(), y.image());
            default -> {
                if (upTo(4) == 0) {
                    due("undo", x.undo(), y.undo());
                }
            }
        }
    }

    private static void rarePeople(int n) {
        if (upTo(5) == 0) {
            due("people " + n, x.people(n), y.people(n));
        }
    }

    private static void meet(int time, int i, int j, int sure) {
        due("meet " + time + " " + i + " " + j + " " + sure, x.meet(time, i, j, sure), y.meet(time, i, j, sure));
    }

    private static void rareDrop(int m) {
        if (upTo(3) == 0) {
            due("drop " + m, x.drop(m), y.drop(m));
        }
    }

    private static void renew(int m, int what, int v) {
        due("renew " + m + " " + what + " " + v, x.renew(m, what, v), y.renew(m, what, v));
    }

    private static void delay(int d) {
        if (upTo(2) == 0) {
            due("delay " + d, x.delay(d), y.delay(d));
        }
    }

    private static void text() {
        String text = upTo(2) == 0 ? wellMade() : fragments();
        if (upTo(3) == 0) {
            text = spoilt(text);
        }
        for (int i = 0; i < text.length(); i++) {
            char sign = text.charAt(i);
            due("feed " + (int) sign, x.feed(sign), y.feed(sign));
        }
        if (upTo(5) > 0) {
            due("read \"" + text + "\"", x.read(), y.read());
        }
    }

    private static String wellMade() {
        StringBuilder s = new StringBuilder();
        for (int c = between(1, upTo(5) == 0 ? 14 : 5); c > 0; c--) {
            s.append(switch (upTo(9)) {
                case 0 -> "people " + upTo(10);
                case 1, 2, 3, 4 -> "meet " + upTo(40) + " " + upTo(5) + " " + upTo(5) + " " + upTo(130);
                case 5 -> "drop " + upTo(20);
                case 6, 7 -> "delay " + upTo(10);
                default -> "ask " + upTo(5) + " " + upTo(5) + " " + upTo(30);
            });
            s.append(c > 1 ? ";" : "");
        }
        return s.toString();
    }

    private static String fragments() {
        StringBuilder s = new StringBuilder();
        for (int f = upTo(15); f > 0; f--) {
            s.append(FRAGMENTS[upTo(FRAGMENTS.length)]);
        }
        return s.toString();
    }

    private static String spoilt(String text) {
        StringBuilder s = new StringBuilder(text);
        int place = upTo(text.length() + 1);
        switch (upTo(3)) {
            case 0 -> s.insert(place, " ;0a9Zz\u0000\n".charAt(upTo(9)));
            case 1 -> s.setLength(place);
            default -> {
                if (place < s.length()) {
                    s.deleteCharAt(place);
                }
            }
        }
        return s.toString();
    }

    private static void question(int which) {
        int k = between(-3, 6);
        int rule = upTo(12) == 0 ? near(4) : upTo(3);
        int part = upTo(12) == 0 ? near(3) : upTo(2);
        switch (which) {
            case 10, 11 -> due("way " + rule + " " + k, x.way(rule, k), y.way(rule, k));
            case 12 -> due("holder " + rule + " " + k, x.holder(rule, k), y.holder(rule, k));
            case 13 -> due("sureness " + rule + " " + part, x.sureness(rule, part), y.sureness(rule, part));
            case 14 -> due("reach " + k, x.reach(k), y.reach(k));
            case 15 -> due("by " + k, x.by(k), y.by(k));
            case 16 -> byPlace(near(15));
            case 17 -> due("rank " + k, x.rank(k), y.rank(k));
            case 18 -> between2(near(6), near(6));
            case 19, 20 -> told(near(13));
            case 21 -> cut(near(66));
            case 22 -> see(near(6), near(30), upTo(2) == 0);
            case 23 -> due("fits", x.fits(rule), y.fits(rule));
            case 24 -> due("odds", x.odds(part), y.odds(part));
            case 25 -> due("mean", x.mean(part), y.mean(part));
            case 26 -> event(upTo(15) == 0 ? near(5) : upTo(4), near(upTo(3) == 0 ? 100 : 14));
            case 27 -> due("after " + rule, x.after(rule), y.after(rule));
            case 28 -> book(near(6));
            default -> due("looked", x.looked(), y.looked());
        }
    }

    private static void byPlace(int k) {
        due("agenda " + k, x.agenda(k), y.agenda(k));
    }

    private static void between2(int i, int j) {
        due("between " + i + " " + j, x.between(i, j), y.between(i, j));
    }

    private static void told(int what) {
        due("told " + what, x.told(what), y.told(what));
    }

    private static void cut(int bits) {
        due("cut " + bits, x.cut(bits), y.cut(bits));
    }

    private static void see(int person, int time, boolean isReached) {
        int who = person == -1 && upTo(3) > 0 ? 0 : person;
        due("see " + who + " " + time + " " + isReached, x.see(who, time, isReached), y.see(who, time, isReached));
    }

    private static void event(int what, int n) {
        due("event " + what + " " + n, x.event(what, n), y.event(what, n));
    }

    /** Mostly rows that are so: by chance alone few would be. */
    private static void book(int person) {
        int time = upTo(8) == 0 ? near(100) : y.reach(person);
        due("book " + person + " " + time, x.book(person, time), y.book(person, time));
    }

    private static void tapes(int which) {
        int tape = near(6);
        int other = near(6);
        switch (which) {
            case 30, 31 -> {
                int sort = upTo(2) == 0 ? 0 : near(6);
                int n = upTo(3) == 0 ? near(62) : upTo(9);
                due("tape " + tape + " " + sort + " " + n, x.tape(tape, sort, n), y.tape(tape, sort, n));
            }
            case 32, 33 -> item(tape, near(9), upTo(3) == 0 ? numbers.next() : upTo(14));
            case 34, 35 -> due("peek " + tape, x.peek(tape, 0), y.peek(tape, 0));
            case 36 -> peek(tape, near(61));
            case 37, 38 -> shift(tape, near(5), other, near(5), near(5));
            case 39 -> tellWay(upTo(6));
            case 40 -> due("count", x.count(other), y.count(other));
            default -> judge(tape, near(5));
        }
    }

    private static void item(int tape, int i, long v) {
        due("item " + tape + " " + i + " " + v, x.item(tape, i, v), y.item(tape, i, v));
    }

    private static void peek(int tape, int i) {
        due("peek " + tape + " " + i, x.peek(tape, i), y.peek(tape, i));
    }

    private static void shift(int tape, int i, int other, int j, int n) {
        String name = "shift " + tape + " " + i + " " + other + " " + j + " " + n;
        due(name, x.shift(tape, i, other, j, n), y.shift(tape, i, other, j, n));
    }

    private static void judge(int tape, int i) {
        due("judge " + tape + " " + i, x.judge(tape, i), y.judge(tape, i));
    }

    /** A WAY onto a TAPE, mostly whole: by chance alone few rows would be one. */
    private static void tellWay(int tape) {
        int rule = upTo(3);
        int hands = Math.max(0, y.way(rule, -1));
        int ahead = upTo(3);
        due("tape " + tape, x.tape(tape, 0, ahead + hands), y.tape(tape, 0, ahead + hands));
        for (int k = 0; k < hands; k++) {
            item(tape, ahead + k, upTo(12) == 0 ? near(15) : y.way(rule, k));
        }
        if (hands > 0 && upTo(3) == 0) {
            item(tape, ahead + hands - 1, upTo(14));
        }
        judge(tape, ahead);
    }

    private static void due(String call, long got, long want) {
        Check.due(run + ": " + call, got, want);
    }

    // ---- numbers that are the same in each run

    private static int upTo(int n) {
        return numbers.upTo(n);
    }

    private static int between(int least, int greatest) {
        return least + upTo(greatest - least + 1);
    }

    /** 0 .. n - 1, and now and then a bit or far outside. */
    private static int near(int n) {
        return switch (upTo(40)) {
            case 0 -> -1;
            case 1 -> n;
            case 2 -> upTo(2) == 0 ? Integer.MIN_VALUE : Integer.MAX_VALUE;
            default -> upTo(n);
        };
    }
}
