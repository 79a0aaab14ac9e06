/** Promises 11 to 20: way, holder, sureness, reach, by, agenda, rank, between, told, cut. */
public final class WaysTest {
    private static final int EARLY = 0, FEW = 1, SUREST = 2;

    public static void main(String[] args) {
        noWay();
        toItself();
        threeRules();
        tiesByArrivalAndHands();
        tiesByNumbers();
        timesAndDelay();
        nobodyHoldsItTwice();
        timeNought();
        eachCallLooksAnew();
        surenessOfFiveHands();
        refusals();
        reachByAndRank();
        agenda();
        between();
        latest();
        cuts();
        leastCutOfTwo();
        theMostWays();
        Check.end();
    }

    private static void way(HandRelay x, int rule, int arrival, int... meetings) {
        String name = "THE WAY by " + rule;
        Check.due(name + ": hands", x.way(rule, -1), meetings.length);
        Check.due(name + ": arrival", x.way(rule, -2), arrival);
        for (int k = 0; k < meetings.length; k++) {
            Check.due(name + ": " + k, x.way(rule, k), meetings[k]);
        }
        for (int k : new int[] {-3, Integer.MIN_VALUE, meetings.length, Integer.MAX_VALUE}) {
            Check.due(name + ": no " + k, x.way(rule, k), HandRelay.NONE);
        }
    }

    private static void holders(HandRelay x, int rule, int... people) {
        String name = "holders by " + rule;
        for (int k = 0; k < people.length; k++) {
            Check.due(name + ": " + k, x.holder(rule, k), people[k]);
        }
        for (int k : new int[] {-1, -2, Integer.MIN_VALUE, people.length, Integer.MAX_VALUE}) {
            Check.due(name + ": no " + k, x.holder(rule, k), HandRelay.NONE);
        }
    }

    private static void sureness(HandRelay x, int rule, long above, long below) {
        Check.due("sureness by " + rule + " above", x.sureness(rule, 0), above);
        Check.due("sureness by " + rule + " below", x.sureness(rule, 1), below);
    }

    private static void noWay() {
        HandRelay x = new HandRelay();
        x.meet(5, 1, 2, 50);
        for (int rule = 0; rule < 3; rule++) {
            for (int k : new int[] {-9, -2, -1, 0, 1, 99}) {
                Check.due("no WAY: way " + k, x.way(rule, k), -5);
                Check.due("no WAY: holder " + k, x.holder(rule, k), -5);
            }
            sureness(x, rule, Check.NO, Check.NO);
        }
        Check.due("WAYS", x.told(6), 0);
        Check.due("LATEST", x.told(7), -5);
        Check.due("POINTS", x.told(8), 4);
        Check.due("LEAST CUT", x.told(9), 0);
        Check.due("the empty CUT", x.cut(0), 1);
        Check.due("REACH", x.reach(1), -5);
        Check.due("who has a REACH", x.told(10), 1);
        Check.due("BY 5", x.by(5), -5);
        Check.due("rank 1", x.rank(1), -5);
    }

    private static void toItself() {
        HandRelay x = new HandRelay();
        x.meet(5, 1, 2, 50);
        x.meet(9, 1, 2, 50);
        x.ask(2, 2, 7);
        for (int rule = 0; rule < 3; rule++) {
            way(x, rule, 7);
            holders(x, rule, 2);
            sureness(x, rule, 1, 1);
        }
        int[] due = {3, 2, 1, 2, 2, 7, 1, 99, 0, -5, 6, 2};
        for (int what = 0; what < due.length; what++) {
            Check.due("to itself: told " + what, x.told(what), due[what]);
        }
        for (int k = 0; k < 6; k++) {
            Check.due("BY " + k, x.by(k), 7);
        }
        Check.due("cut 0", x.cut(0), 0);
        Check.due("cut 3", x.cut(3), 0);
        Check.due("cut 4", x.cut(4), -2);
        Check.due("REACH of FROM", x.reach(2), 7);
        Check.due("REACH of 1", x.reach(1), 9);
    }

    private static void threeRules() {
        HandRelay x = new HandRelay();
        x.people(4);
        x.meet(1, 0, 1, 40);
        x.meet(2, 1, 3, 40);
        x.meet(9, 3, 0, 30);
        x.meet(4, 2, 0, 100);
        x.meet(5, 3, 2, 96);
        x.ask(0, 3, 0);
        Check.due("WAYS", x.told(6), 3);
        way(x, EARLY, 2, 0, 1);
        holders(x, EARLY, 0, 1, 3);
        sureness(x, EARLY, 4, 25);
        way(x, FEW, 9, 2);
        holders(x, FEW, 0, 3);
        sureness(x, FEW, 3, 10);
        way(x, SUREST, 5, 3, 4);
        holders(x, SUREST, 0, 2, 3);
        sureness(x, SUREST, 24, 25);
    }

    private static void tiesByArrivalAndHands() {
        HandRelay x = new HandRelay();
        x.people(4);
        x.meet(1, 0, 1, 50);
        x.meet(8, 1, 3, 100);
        x.meet(8, 0, 3, 50);
        x.ask(0, 3, 0);
        way(x, EARLY, 8, 2);
        way(x, SUREST, 8, 2);
        x.meet(7, 0, 2, 50);
        x.meet(9, 2, 3, 100);
        x.drop(2);
        way(x, FEW, 8, 0, 1);
        way(x, SUREST, 8, 0, 1);
        Check.due("later", x.renew(1, 0, 10), 8);
        way(x, FEW, 9, 3, 4);
        way(x, SUREST, 9, 3, 4);
        Check.due("surer by a hundredth", x.renew(0, 1, 51), 50);
        way(x, SUREST, 10, 0, 1);
    }

    private static void tiesByNumbers() {
        HandRelay x = new HandRelay();
        x.people(4);
        x.meet(5, 2, 3, 100);
        x.meet(3, 0, 2, 100);
        x.meet(3, 0, 1, 100);
        x.meet(5, 1, 3, 100);
        x.meet(5, 3, 1, 100);
        x.meet(3, 0, 1, 100);
        x.ask(0, 3, 0);
        Check.due("WAYS", x.told(6), 5);
        for (int rule = 0; rule < 3; rule++) {
            way(x, rule, 5, 1, 0);
        }
        x.drop(1);
        for (int rule = 0; rule < 3; rule++) {
            way(x, rule, 5, 2, 3);
        }
        x.drop(3);
        for (int rule = 0; rule < 3; rule++) {
            way(x, rule, 5, 2, 4);
        }
        x.drop(2);
        for (int rule = 0; rule < 3; rule++) {
            way(x, rule, 5, 5, 4);
        }
    }

    private static void timesAndDelay() {
        HandRelay x = new HandRelay();
        x.meet(5, 0, 1, 10);
        x.meet(8, 1, 2, 10);
        x.ask(0, 2, 5);
        for (int d = 0; d < 10; d++) {
            x.delay(d);
            Check.due("WAYS by DELAY " + d, x.told(6), d <= 3 ? 1 : 0);
            Check.due("REACH by DELAY " + d, x.reach(2), d <= 3 ? 8 : -5);
            Check.due("REACH of 1", x.reach(1), 5);
        }
        x.delay(0);
        x.renew(1, 0, 5);
        Check.due("one TIME, no DELAY", x.told(6), 1);
        x.renew(1, 0, 4);
        Check.due("ahead of it", x.told(6), 0);
        x.renew(1, 0, 5);
        x.ask(0, 2, 6);
        Check.due("behind START", x.told(6), 0);
        x.delay(9);
        x.ask(0, 1, 5);
        Check.due("no DELAY ahead of the first", x.told(6), 1);
    }

    private static void nobodyHoldsItTwice() {
        HandRelay x = new HandRelay();
        x.people(4);
        x.meet(1, 0, 1, 10);
        x.meet(3, 1, 0, 10);
        x.meet(5, 0, 2, 10);
        x.meet(7, 2, 1, 10);
        x.meet(9, 1, 3, 10);
        x.ask(0, 3, 0);
        Check.due("0 1 3 twice, 0 2 1 3", x.told(6), 3);
        x.ask(0, 1, 0);
        Check.due("0 1 twice, 0 2 1", x.told(6), 3);
        way(x, EARLY, 1, 0);
        Check.due("0 2 straight and by 1 twice", x.ask(0, 2, 0), 3);
        x.people(4);
        x.meet(1, 0, 1, 10);
        x.meet(3, 1, 2, 10);
        x.meet(5, 2, 1, 10);
        x.meet(7, 1, 3, 10);
        Check.due("not 0 1 2 1 3", x.ask(0, 3, 0), 1);
    }

    /** A TIME of 0 is a TIME like others, not a sign that there is none. */
    private static void timeNought() {
        HandRelay x = new HandRelay();
        x.delay(0);
        x.meet(0, 0, 1, 10);
        x.meet(0, 1, 2, 10);
        x.meet(5, 0, 2, 10);
        x.ask(0, 2, 0);
        Check.due("reach", x.reach(2), 0);
        Check.due("by 1", x.by(1), 5);
        Check.due("by 2", x.by(2), 0);
        Check.due("rank 0", x.rank(0), 2);
        Check.due("rank 2", x.rank(2), 0);
        Check.due("who has a REACH", x.told(10), 7);
        Check.due("mean", x.mean(0), 0);
        way(x, EARLY, 0, 0, 1);
        x.drop(2);
        Check.due("cut 0", x.cut(0), 0);
        Check.due("cut 2", x.cut(2), 1);
        Check.due("LATEST", x.told(7), 0);
        Check.due("odds", x.odds(0), 0);
        x.meet(0, 2, 1, 10);
        Check.due("odds above", x.odds(0), 2);
        Check.due("odds below", x.odds(1), 3);
        x.meet(5, 0, 1, 10);
        x.meet(6, 0, 2, 10);
        x.meet(7, 2, 1, 10);
        x.ask(0, 1, 0);
        Check.due("by 1, a later one behind it", x.by(1), 0);
        Check.due("by 2, more hands later", x.by(2), 0);
    }

    /** What one call asked isn't kept for another. */
    private static void eachCallLooksAnew() {
        HandRelay x = new HandRelay();
        x.meet(3, 0, 1, 30);
        x.meet(4, 1, 2, 40);
        x.meet(9, 0, 2, 5);
        x.ask(0, 2, 0);
        Check.due("holder by FEW", x.holder(FEW, 1), 2);
        Check.due("holder by EARLY", x.holder(EARLY, 1), 1);
        Check.due("sureness by FEW", x.sureness(FEW, 1), 20);
        Check.due("way by SUREST", x.way(SUREST, -1), 2);
        x.drop(1);
        Check.due("rank 1", x.rank(1), 1);
        Check.due("rank 2", x.rank(2), 2);
        Check.due("holder, without 1", x.holder(EARLY, 1), 2);
        x.ask(1, 0, 0);
        Check.due("rank 1, the other way", x.rank(1), 0);
        Check.due("holder, the other way", x.holder(SUREST, 0), 1);
        x.delay(9);
        Check.due("reach by another DELAY", x.reach(2), -5);
        x.renew(2, 0, 99);
        Check.due("reach at another TIME", x.reach(2), 99);
        Check.due("by", x.by(1), 3);
        x.people(3);
        Check.due("rank 1, no MEETINGS", x.rank(1), -5);
        Check.due("holder, no MEETINGS", x.holder(EARLY, 0), -5);
    }

    private static void surenessOfFiveHands() {
        HandRelay x = new HandRelay();
        x.people(6);
        for (int p = 0; p < 5; p++) {
            x.meet(p, p, p + 1, 99);
        }
        x.ask(0, 5, 0);
        way(x, SUREST, 4, 0, 1, 2, 3, 4);
        sureness(x, SUREST, 9509900499L, 10000000000L);
        for (int m = 0; m < 5; m++) {
            x.renew(m, 1, 1);
        }
        sureness(x, EARLY, 1, 10000000000L);
        for (int m = 0; m < 5; m++) {
            x.renew(m, 1, 100);
        }
        sureness(x, FEW, 1, 1);
    }

    private static void refusals() {
        HandRelay x = new HandRelay();
        x.meet(1, 0, 1, 60);
        for (int rule : new int[] {-1, 3, Integer.MIN_VALUE, Integer.MAX_VALUE}) {
            Check.due("way by " + rule, x.way(rule, 0), -2);
            Check.due("holder by " + rule, x.holder(rule, 0), -2);
            Check.due("way by " + rule + ", no such k", x.way(rule, 99), -2);
            Check.due("sureness by " + rule, x.sureness(rule, 0), Check.NO);
        }
        for (int part : new int[] {-1, 2, Integer.MIN_VALUE, Integer.MAX_VALUE}) {
            Check.due("part " + part, x.sureness(0, part), Check.NO);
        }
        for (int k : new int[] {-1, 6, Integer.MIN_VALUE, Integer.MAX_VALUE}) {
            Check.due("by " + k, x.by(k), -2);
        }
        for (int p : new int[] {-1, 3, Integer.MIN_VALUE, Integer.MAX_VALUE}) {
            Check.due("reach " + p, x.reach(p), -1);
            Check.due("between " + p, x.between(p, 0), -1);
            Check.due("between, " + p, x.between(0, p), -1);
        }
        for (int k : new int[] {-1, Integer.MIN_VALUE}) {
            Check.due("agenda " + k, x.agenda(k), -1);
            Check.due("rank " + k, x.rank(k), -1);
        }
        Check.due("agenda, far", x.agenda(Integer.MAX_VALUE), -5);
        Check.due("rank, far", x.rank(Integer.MAX_VALUE), -5);
        for (int what : new int[] {-1, 12, Integer.MIN_VALUE, Integer.MAX_VALUE}) {
            Check.due("told " + what, x.told(what), -1);
        }
        x.ask(1, 0, 0);
        way(x, EARLY, 1, 0);
        x.people(4);
        x.ask(1, 2, 0);
        for (int bits : new int[] {-1, 2, 4, 6, 3, 5, 16, 17, 32, 1 << 30, Integer.MIN_VALUE, Integer.MAX_VALUE}) {
            Check.due("cut " + bits, x.cut(bits), -2);
        }
        for (int bits : new int[] {0, 1, 8, 9}) {
            Check.due("cut " + bits, x.cut(bits), 1);
        }
    }

    private static void reachByAndRank() {
        HandRelay x = new HandRelay();
        x.people(6);
        x.meet(20, 0, 4, 10);
        x.meet(3, 0, 1, 10);
        x.meet(5, 1, 2, 10);
        x.meet(5, 1, 3, 10);
        x.meet(9, 3, 4, 10);
        x.meet(12, 2, 4, 10);
        x.ask(0, 4, 2);
        int[] reach = {2, 3, 5, 5, 9, -5};
        for (int p = 0; p < 6; p++) {
            Check.due("reach " + p, x.reach(p), reach[p]);
        }
        int[] by = {-5, 20, 20, 9, 9, 9};
        for (int k = 0; k < 6; k++) {
            Check.due("by " + k, x.by(k), by[k]);
        }
        int[] rank = {0, 1, 3, 2, 4, -5};
        for (int k = 0; k < 6; k++) {
            Check.due("rank " + k, x.rank(k), rank[k]);
        }
        Check.due("who has a REACH", x.told(10), 31);
        x.drop(4);
        Check.due("without 4: by 2", x.by(2), 20);
        Check.due("without 4: by 3", x.by(3), 12);
        x.ask(4, 4, 0);
        Check.due("from 4: reach 3 by none", x.reach(3), -5);
        x.ask(0, 3, 3);
        Check.due("through TO, too", x.reach(4), 12);
        Check.due("alike: the greatest first", x.rank(0), 1);
        Check.due("alike: the least last", x.rank(1), 0);
    }

    private static void agenda() {
        HandRelay x = new HandRelay();
        int[] times = {9, 3, 9, 0, 3, 99};
        for (int time : times) {
            x.meet(time, 0, 1, 10);
        }
        int[] due = {3, 1, 4, 0, 2, 5, -5};
        for (int k = 0; k < due.length; k++) {
            Check.due("agenda " + k, x.agenda(k), due[k]);
        }
        x.drop(1);
        x.drop(5);
        int[] less = {3, 4, 0, 2, -5, -5};
        for (int k = 0; k < less.length; k++) {
            Check.due("agenda without two " + k, x.agenda(k), less[k]);
        }
        x.renew(3, 0, 9);
        int[] renewed = {4, 0, 2, 3, -5};
        for (int k = 0; k < renewed.length; k++) {
            Check.due("agenda, renewed " + k, x.agenda(k), renewed[k]);
        }
    }

    private static void between() {
        HandRelay x = new HandRelay();
        x.meet(1, 0, 1, 10);
        x.meet(1, 1, 2, 10);
        x.meet(1, 1, 0, 10);
        x.meet(1, 0, 1, 10);
        Check.due("between 0 1", x.between(0, 1), 13);
        Check.due("between 1 0", x.between(1, 0), 13);
        Check.due("between 2 1", x.between(2, 1), 2);
        Check.due("between 2 0", x.between(2, 0), 0);
        Check.due("one twice", x.between(1, 1), -1);
        x.drop(2);
        Check.due("without 2", x.between(0, 1), 9);
        for (int m = 4; m < 14; m++) {
            x.meet(1, 0, 2, 10);
        }
        Check.due("up to 13", x.between(2, 0), 0x3ff0);
    }

    private static void latest() {
        HandRelay x = new HandRelay();
        x.meet(40, 0, 1, 10);
        Check.due("by one", x.told(7), 40);
        x.meet(50, 0, 2, 10);
        x.meet(60, 2, 1, 10);
        Check.due("by two", x.told(7), 50);
        x.ask(0, 1, 70);
        Check.due("whatever START is", x.told(7), 50);
        Check.due("no WAY at START", x.told(6), 0);
        x.renew(0, 0, 99);
        Check.due("at 99", x.told(7), 99);
        x.renew(0, 0, 0);
        x.drop(2);
        Check.due("at 0", x.told(7), 0);
        x.drop(0);
        Check.due("none", x.told(7), -5);
    }

    private static void cuts() {
        HandRelay x = new HandRelay();
        x.people(5);
        x.meet(1, 0, 1, 10);
        x.meet(2, 1, 2, 10);
        x.meet(3, 2, 4, 10);
        x.meet(2, 1, 3, 10);
        x.meet(4, 3, 4, 10);
        x.ask(0, 4, 0);
        Check.due("POINTS", x.told(8), 2);
        Check.due("LEAST CUT", x.told(9), 2);
        int[] due = {0, -2, 1, -2, 0, -2, 1, -2, 0, -2, 1, -2, 1, -2, 1, -2};
        for (int bits = 0; bits < 16; bits++) {
            Check.due("cut " + bits, x.cut(bits), due[bits]);
        }
        x.drop(3);
        Check.due("POINTS in a row", x.told(8), 6);
        Check.due("LEAST CUT in a row", x.told(9), 2);
        x.meet(9, 4, 0, 1);
        Check.due("POINTS beside a straight one", x.told(8), 0);
        Check.due("LEAST CUT beside a straight one", x.told(9), -5);
        x.drop(5);
        x.drop(0);
        Check.due("POINTS without a WAY", x.told(8), 14);
        Check.due("LEAST CUT without a WAY", x.told(9), 0);
        x.people(3);
        x.meet(1, 1, 0, 10);
        x.meet(2, 0, 2, 10);
        x.ask(1, 2, 0);
        Check.due("POINTS, 0 alone", x.told(8), 1);
        Check.due("LEAST CUT, 0 alone", x.told(9), 1);
    }

    private static void leastCutOfTwo() {
        HandRelay x = new HandRelay();
        x.people(6);
        x.meet(1, 0, 2, 10);
        x.meet(1, 0, 5, 10);
        x.meet(5, 2, 3, 10);
        x.meet(5, 5, 4, 10);
        x.meet(9, 3, 1, 10);
        x.meet(9, 4, 1, 10);
        Check.due("POINTS", x.told(8), 0);
        Check.due("LEAST CUT: 3 and 2 are no CUT, of pairs 2 and 4", x.told(9), 20);
        Check.due("2 and 3", x.cut(12), 0);
        Check.due("2 and 4", x.cut(20), 1);
        x.meet(3, 5, 3, 10);
        Check.due("2 and 4 are none any more, of pairs 3 and 4", x.told(9), 24);
    }

    private static void theMostWays() {
        HandRelay x = new HandRelay();
        x.people(6);
        x.delay(0);
        int[] pairs = {0, 0, 0, 1, 1, 1, 2, 2, 2, 3, 3, 3, 4, 4};
        for (int p : pairs) {
            x.meet(50, p, p + 1, 50);
        }
        Check.due("3 x 3 x 3 x 3 x 2", x.ask(0, 5, 0), 162);
        way(x, EARLY, 50, 0, 3, 6, 9, 12);
        sureness(x, EARLY, 1, 32);
        Check.due("by 4", x.by(4), -5);
        Check.due("by 5", x.by(5), 50);
    }
}
