/** Promises 21 to 24: see, fits, odds, mean. */
public final class SeenOddsTest {
    private static final int[] EDGES = {-2, Integer.MIN_VALUE, Integer.MAX_VALUE};

    public static void main(String[] args) {
        see();
        fits();
        fitsOfFromAndOfWhoHasNone();
        fitsEnds();
        odds();
        mean();
        Check.end();
    }

    private static void see() {
        HandRelay x = new HandRelay();
        Check.due("none then", x.see(-1, -7, true), 0);
        for (int edge : EDGES) {
            Check.due("person " + edge, x.see(edge, 0, true), -1);
            Check.due("time " + edge, x.see(0, edge, false), -2);
        }
        Check.due("person 3", x.see(3, 0, true), -1);
        Check.due("NONE ahead of BAD", x.see(3, 100, true), -1);
        Check.due("time -1", x.see(0, -1, true), -2);
        Check.due("time 100", x.see(0, 100, true), -2);
        Check.due("nothing came", x.count(0), 0);
        for (int k = 1; k <= 6; k++) {
            Check.due("see " + k, x.see(k % 3, k == 1 ? 0 : 99, false), k);
        }
        Check.due("the seventh", x.see(0, 0, true), -4);
        Check.due("NONE ahead of FULL", x.see(3, 0, true), -1);
        Check.due("BAD ahead of FULL", x.see(0, 100, true), -2);
        Check.due("count", x.count(0), 6);
        Check.due("none then", x.see(-1, 100, false), 0);
        Check.due("count", x.count(0), 0);
        Check.due("see again", x.see(2, 99, true), 1);
    }

    private static void fits() {
        HandRelay x = new HandRelay();
        x.meet(5, 0, 1, 10);
        x.meet(12, 0, 1, 10);
        Check.due("all STARTS", x.fits(0), 21);
        Check.due("the least", x.fits(1), 0);
        x.see(1, 5, true);
        Check.due("0 .. 5", x.fits(0), 6);
        Check.due("the least", x.fits(1), 0);
        x.see(-1, 0, true);
        x.see(1, 5, false);
        Check.due("6 .. 20", x.fits(0), 15);
        Check.due("the least", x.fits(1), 6);
        x.see(1, 12, true);
        Check.due("6 .. 12", x.fits(0), 7);
        Check.due("the least", x.fits(1), 6);
        x.see(1, 11, true);
        Check.due("none", x.fits(0), 0);
        Check.due("the least", x.fits(1), -5);
        for (int what : new int[] {-1, 2, Integer.MIN_VALUE, Integer.MAX_VALUE}) {
            Check.due("what " + what, x.fits(what), -1);
        }
        Check.due("START stays", x.told(5), 0);
        Check.due("SEEN stays", x.count(0), 3);
    }

    private static void fitsOfFromAndOfWhoHasNone() {
        HandRelay x = new HandRelay();
        x.ask(1, 0, 50);
        x.see(1, 8, true);
        x.see(1, 3, false);
        x.see(2, 99, false);
        Check.due("4 .. 8", x.fits(0), 5);
        Check.due("the least", x.fits(1), 4);
        x.see(2, 99, true);
        Check.due("2 has no REACH", x.fits(0), 0);
    }

    private static void fitsEnds() {
        HandRelay x = new HandRelay();
        x.meet(20, 0, 1, 10);
        x.see(0, 19, false);
        x.see(1, 20, true);
        Check.due("20 alone", x.fits(0), 1);
        Check.due("20", x.fits(1), 20);
        x.see(0, 20, false);
        Check.due("21 does not count", x.fits(0), 0);
    }

    private static void odds(HandRelay x, String name, long above, long below) {
        Check.due(name + ": above", x.odds(0), above);
        Check.due(name + ": below", x.odds(1), below);
    }

    private static void odds() {
        HandRelay x = new HandRelay();
        odds(x, "no MEETINGS", Check.NO, Check.NO);
        x.ask(1, 1, 0);
        odds(x, "no MEETINGS, FROM is TO", Check.NO, Check.NO);
        x.ask(0, 1, 0);
        x.meet(5, 0, 1, 10);
        odds(x, "the one is missed", 0, 1);
        x.meet(5, 1, 2, 10);
        odds(x, "one of two", 1, 2);
        x.meet(5, 1, 2, 10);
        x.meet(5, 1, 2, 10);
        odds(x, "three of four", 3, 4);
        x.meet(7, 0, 1, 10);
        odds(x, "two WAYS", 1, 1);
        x.drop(4);
        x.drop(3);
        odds(x, "DROPPED ones don't count", 2, 3);
        x.ask(0, 1, 6);
        odds(x, "no WAY at all", 0, 1);
        x.ask(2, 2, 6);
        odds(x, "FROM is TO", 1, 1);
        for (int part : new int[] {-1, 2, Integer.MIN_VALUE, Integer.MAX_VALUE}) {
            Check.due("part " + part, x.odds(part), Check.NO);
        }
        x.people(4);
        x.meet(1, 0, 1, 10);
        x.meet(3, 1, 3, 10);
        x.meet(5, 2, 3, 10);
        x.meet(5, 2, 3, 10);
        x.ask(0, 3, 0);
        odds(x, "two of four in lowest terms", 1, 2);
        x.drop(0);
        x.drop(1);
        x.drop(2);
        x.drop(3);
        odds(x, "all DROPPED", Check.NO, Check.NO);
    }

    private static void mean(HandRelay x, String name, long above, long below) {
        Check.due(name + ": above", x.mean(0), above);
        Check.due(name + ": below", x.mean(1), below);
    }

    private static void mean() {
        HandRelay x = new HandRelay();
        mean(x, "FROM alone at 0", 0, 1);
        x.ask(2, 0, 98);
        mean(x, "FROM alone at 98", 98, 1);
        x.ask(0, 1, 3);
        x.meet(4, 0, 1, 10);
        mean(x, "3 and 4", 7, 2);
        x.meet(8, 2, 1, 10);
        mean(x, "3, 4 and 8", 5, 1);
        x.renew(1, 0, 7);
        mean(x, "3, 4 and 7", 14, 3);
        for (int part : new int[] {-1, 2, Integer.MIN_VALUE, Integer.MAX_VALUE}) {
            Check.due("part " + part, x.mean(part), Check.NO);
        }
        x.people(6);
        x.meet(1, 0, 1, 10);
        x.meet(2, 0, 2, 10);
        x.meet(3, 0, 3, 10);
        mean(x, "6 by 4", 3, 2);
    }
}
