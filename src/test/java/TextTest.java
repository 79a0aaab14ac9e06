/** Promises 9 and 10: feed, read. */
public final class TextTest {
    public static void main(String[] args) {
        feed();
        setUps();
        numbersOfOneAndMoreDigits();
        refusedClausesAreNotDone();
        faults();
        faultsAlwaysEmptyTheTextAndDoNothing();
        twelveClauses();
        Check.end();
    }

    private static void feed() {
        HandRelay x = new HandRelay();
        for (int sign : new int[] {-1, 128, Integer.MIN_VALUE, Integer.MAX_VALUE}) {
            Check.due("feed " + sign, x.feed(sign), HandRelay.BAD);
        }
        Check.due("nothing came", x.count(3), 0);
        Check.due("feed 0", x.feed(0), 1);
        Check.due("feed 127", x.feed(127), 2);
        for (int size = 3; size <= 100; size++) {
            Check.due("feed the " + size + ".", x.feed('a'), size);
        }
        Check.due("the 101st", x.feed('a'), HandRelay.FULL);
        Check.due("BAD ahead of FULL", x.feed(128), HandRelay.BAD);
        Check.due("count", x.count(3), 100);
        Check.due("read a 0 first", x.read(), -10);
        Check.due("it is empty", x.count(3), 0);
        Check.due("feed again", x.feed('a'), 1);
    }

    private static void setUps() {
        HandRelay x = new HandRelay();
        int done = Check.read(x, "people 4;meet 5 0 1 90;meet 19 3 2 100;delay 0;drop 0;ask 2 3 7");
        Check.due("done", done, 6);
        Check.due("people", x.told(0), 4);
        Check.due("came", x.told(11), 2);
        Check.due("there", x.told(1), 1);
        int[] due = {19, 3, 2, 100};
        for (int what = 0; what < 4; what++) {
            Check.due("meeting 1 " + what, x.meeting(1, what), due[what]);
        }
        Check.due("delay", x.told(2), 0);
        Check.due("from", x.told(3), 2);
        Check.due("to", x.told(4), 3);
        Check.due("start", x.told(5), 7);
        Check.due("behind what is there", Check.read(x, "meet 1 0 1 1"), 1);
        Check.due("came", x.told(11), 3);
        Check.due("people first empties", Check.read(x, "meet 1 0 1 1;people 4"), 2);
        Check.due("came", x.told(11), 0);
        Check.due("delay stays", x.told(2), 0);
    }

    private static void numbersOfOneAndMoreDigits() {
        HandRelay x = new HandRelay();
        Check.due("leading noughts", Check.read(x, "meet 05 0 1 007;meet 0 0 1 1;ask 0 1 00"), 3);
        Check.due("time", x.meeting(0, 0), 5);
        Check.due("sure", x.meeting(0, 3), 7);
        Check.due("many", Check.read(x, "people 2;meet 99 0 1 10;ask 1 0 99;delay 9;drop 00"), 5);
        Check.due("dropped", x.meeting(0, 0), -11);
        Check.due("start", x.told(5), 99);
        Check.due("time of three digits", Check.read(x, "meet 100 0 1 5"), -10 - 7);
        Check.due("sure of four digits", Check.read(x, "meet 10 0 1 1000"), -10 - 15);
        Check.due("start of three digits", Check.read(x, "ask 0 1 100"), -10 - 10);
        Check.due("meeting of three digits", Check.read(x, "drop 100"), -10 - 7);
        Check.due("person of two digits", Check.read(x, "ask 00 1 1"), -10 - 5);
        Check.due("people of two digits", Check.read(x, "people 03"), -10 - 8);
        Check.due("delay of two digits", Check.read(x, "delay 01"), -10 - 7);
    }

    private static void refusedClausesAreNotDone() {
        HandRelay x = new HandRelay();
        Check.due("people", Check.read(x, "people 7;people 1;people 0;people 9"), 0);
        Check.due("as it was", x.told(0), 3);
        Check.due("meet", Check.read(x, "meet 1 0 0 5;meet 1 0 3 5;meet 1 0 1 0;meet 1 0 1 101;meet 1 0 1 999"), 0);
        Check.due("none came", x.told(11), 0);
        Check.due("drop 1 of 2", Check.read(x, "meet 1 0 1 5;meet 1 0 1 5;drop 1"), 3);
        Check.due("0 is there", x.meeting(0, 0), 1);
        Check.due("1 is DROPPED", x.meeting(1, 0), -11);
        x.people(3);
        Check.due("drop", Check.read(x, "drop 0;meet 1 0 1 5;drop 0;drop 0;drop 99"), 2);
        Check.due("ask", Check.read(x, "ask 0 3 0;ask 9 0 0;ask 1 1 1"), 1);
        Check.due("from", x.told(3), 1);
        for (int m = 1; m < 14; m++) {
            x.meet(1, 0, 1, 1);
        }
        Check.due("full", Check.read(x, "meet 1 0 1 5;delay 3"), 1);
        Check.due("people within, then known", Check.read(x, "people 6;meet 1 4 5 9;people 2;meet 1 0 2 9"), 3);
    }

    private static void faults() {
        String[] texts = {
            "", ";", "delay 1;", "delay 1;;", " delay 1", "delay  1", "delay", "delay ", "delay1", "delay 1 ",
            "delay 1 2", "delay x", "delay 1;x", "Delay 1", "delays 1", "dela", "delay 1;mee", "delay 1;meet",
            "meet 1", "meet 1 ", "meet 1 2 3", "meet 1 2 3 ", "meet 1 2 3 4 ", "meet 12 12", "meet 1;", "meet;",
            "ask 1 2", "ask 1 2 3 4", "ask -1 2 3", "drop", "drop 1a", "peopl 4", "peoplee 4", "people.4",
            "delay 1;delay 2;delay q;xxx", "delay 1;foo;delay q", "delay 1\n", "delay\t1", "5", "people 4;;ask 0 1 1",
            "xelay 1", "dxlay 1", "delax 1", "askz", "aska", "ask`", "ask{", "delay 1;askz 0 1 1", "delay /", "delay :",
            "delay\u00001", "ask 1 2 3;delay 4;dr", "meet 1 0 1 5;meet 1 0 1 5;me",
        };
        int[] due = {
            0, 0, 8, 8, 0, 6, 5, 6, 5, 7,
            7, 6, 8, 0, 0, 0, 8, 12,
            6, 7, 10, 11, 12, 9, 6, 4,
            7, 9, 4, 4, 6, 0, 0, 6,
            22, 8, 7, 5, 0, 9,
            0, 0, 0, 0, 0, 3, 3, 8, 6, 6,
            5, 18, 26,
        };
        for (int t = 0; t < texts.length; t++) {
            HandRelay x = new HandRelay();
            Check.due("read \"" + texts[t] + "\"", Check.read(x, texts[t]), -10 - due[t]);
            Check.due("empty behind \"" + texts[t] + "\"", x.count(3), 0);
        }
    }

    private static void faultsAlwaysEmptyTheTextAndDoNothing() {
        HandRelay x = new HandRelay();
        Check.due("a fault behind much", Check.read(x, "people 6;meet 1 0 1 5;delay 4;ask 1 1 9;drop 0;no"), -10 - 47);
        Check.due("people", x.told(0), 3);
        Check.due("meetings", x.told(11), 0);
        Check.due("delay", x.told(2), 1);
        Check.due("from", x.told(3), 0);
        Check.due("the next is read alone", Check.read(x, "delay 4"), 1);
        Check.due("empty also without a fault", x.count(3), 0);
        Check.due("nothing again", x.read(), -10);
    }

    private static void twelveClauses() {
        StringBuilder eleven = new StringBuilder();
        for (int c = 0; c < 11; c++) {
            eleven.append("drop 0;");
        }
        HandRelay x = new HandRelay();
        Check.due("twelve", Check.read(x, eleven + "delay 2"), 1);
        Check.due("the twelfth was done", x.told(2), 2);
        Check.due("; behind the twelfth", Check.read(x, eleven + "delay 3;"), -10 - 84);
        Check.due("a thirteenth", Check.read(x, eleven + "delay 3;delay 4"), -10 - 84);
        Check.due("a thirteenth of no WORD", Check.read(x, eleven + "delay 3;abc"), -10 - 84);
        Check.due("a blank behind the twelfth", Check.read(x, eleven + "delay 3 "), -10 - 84);
        Check.due("a twelfth of no WORD", Check.read(x, eleven + "delayed 3"), -10 - 77);
        Check.due("none was done", x.told(2), 2);
        Check.due("a hundred signs", Check.read(x, eleven + "ask 0 1 5".concat("              ")), -10 - 86);
    }
}
