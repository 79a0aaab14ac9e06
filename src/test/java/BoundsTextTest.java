/** Boundaries of THE TEXT, its CLAUSES and its FAULT (Terms, section 1; promises 9 and 10), sentence by sentence. */
public final class BoundsTextTest {
    public static void main(String[] args) {
        feed();
        read();
        clauses();
        words();
        blanks();
        digits();
        faultOfAWord();
        faultOfAPlace();
        theEndOfTheText();
        eachPrefix();
        eachByte();
        done();
        refusedOnes();
        Check.end();
    }

    /** What reading a text answers a new object. */
    private static void reads(String text, int due) {
        HandRelay x = new HandRelay();
        Check.due("read \"" + text + "\"", Check.read(x, text), due);
        Check.due("THE TEXT is empty behind \"" + text + "\"", x.count(3), 0);
    }

    private static void fault(String text, int place) {
        reads(text, -10 - place);
    }

    private static void feed() {
        Script.shows("A sign (0 .. 127) comes behind THE TEXT's: how many it has. BAD; FULL.", """
            count 3 -> 0
            feed -1,128,255,MIN,MAX -> BAD
            count 3 -> 0
            feed 0,127 -> 1 2
            feed 128 -> BAD
            count 3 -> 2""");
        Script.shows("THE TEXT (bytes, 100 at most)", """
            text ask 0 1 5;ask 0 1 5;ask 0 1 5;ask 0 1 5;ask 0 1 5;ask 0 1 5;ask 0 1 5;ask 0 1 5;ask 0 1 5;meet 5
            count 3 -> 96
            feed 55,32,48,32 -> 97 98 99 100
            feed 0,32,127 -> FULL
            feed -1,128,MIN,MAX -> BAD
            count 3 -> 100
            read -> -110
            count 3 -> 0
            told 5 -> 0
            feed 32 -> 1""");
        Script.shows("THE TEXT (bytes, 100 at most)", """
            text meet 55 0 1 100;meet 55 0 1 100;meet 55 0 1 100;meet 55 0 1 100;meet 55 0 1 100;meet 55 0 1 100;drop
            count 3 -> 100
            read -> -110
            text meet 55 0 1 100;meet 55 0 1 100;meet 55 0 1 100;meet 55 0 1 100;meet 55 0 1 100;meet 5 0 1 99;drop 0
            count 3 -> 100
            feed 48 -> FULL
            read -> 7
            told 1,11 -> 5 6
            read -> -10""");
    }

    private static void read() {
        Script.shows("THE TEXT, which is empty then (by a FAULT, too), is a set-up: how many CLAUSES were done; -10 less the FAULT.",
            """
            read -> -10
            read -> -10
            text delay 4
            read -> 1
            count 3 -> 0
            told 2 -> 4
            read -> -10
            told 2 -> 4
            text delay 5;delay
            read -> -23
            count 3 -> 0
            told 2 -> 4
            text delay 6
            read -> 1
            told 2 -> 6
            text delay 7;drop 0
            read -> 1
            count 3 -> 0
            text drop 0
            read -> 0
            count 3 -> 0""");
    }

    private static void clauses() {
        Script.shows("people n; meet TIME i j SURE; drop MEETING; delay DELAY; ask FROM TO START.", """
            text people 6;meet 1 2 3 4;meet 5 4 3 2;drop 0;delay 9;ask 4 3 2
            read -> 6
            told 0..6 -> 6 1 9 4 3 2 1
            meeting 0 0 -> NOTHING
            meeting 1 0..3 -> 5 4 3 2""");
        Check.says("A set-up is read from THE TEXT (bytes, 100 at most): CLAUSES, 1 to 12, with ; between (none behind the twelfth)");
        fault("", 0);
        fault(";", 0);
        reads("delay 1", 1);
        fault("delay 1;", 8);
        fault(";delay 1", 0);
        fault("delay 1;;delay 1", 8);
        fault("delay 1 ;delay 1", 7);
        fault("delay 1,delay 1", 7);
        fault("delay 1:delay 1", 7);
        reads("delay 1;".repeat(10) + "delay 1", 11);
        fault("delay 1;".repeat(11), 88);
        reads("delay 1;".repeat(11) + "delay 1", 12);
        fault("delay 1;".repeat(12), 95);
        fault("delay 1;".repeat(11) + "delay 12", 95);
        fault("drop 0;".repeat(12) + "drop 0", 83);
        fault("drop 0;".repeat(12) + "x", 83);
        fault("drop 0;".repeat(12) + "delay 1;x", 83);
        reads("drop 0;".repeat(11) + "drop 01", 0);
        fault("drop 0;".repeat(11) + "drop 01;", 84);
    }

    private static void words() {
        Check.says("A WORD is as many letters a .. z as stand there.");
        for (String word : new String[] {"people", "meet", "drop", "delay", "ask"}) {
            String rest = word.equals("meet") ? " 1 0 1 1" : word.equals("ask") ? " 0 1 1" : " 3";
            reads(word + rest, word.equals("drop") ? 0 : 1);
            fault(word + "a" + rest, 0);
            fault(word + "z" + rest, 0);
            fault(word + word + rest, 0);
            fault("a" + word + rest, 0);
            fault(word.substring(1) + rest, 0);
            fault(word.substring(0, word.length() - 1) + rest, 0);
            fault(word.substring(0, word.length() - 1) + "z" + rest, 0);
            fault(word.substring(0, 1).toUpperCase() + word.substring(1) + rest, 0);
            fault(word.toUpperCase() + rest, 0);
            // What stands beside a .. z and A .. Z ends the WORD, which is one then.
            for (char beside : new char[] {'`', '{', '@', '[', 'A', 'Z', '0', '9', '\0', '\177'}) {
                fault(word + beside + rest, word.length());
            }
            fault("delay 1;" + word + "a" + rest, 8);
            fault("delay 1;" + word + ";" + rest, 8 + word.length());
        }
    }

    private static void blanks() {
        Check.says("a WORD and its numbers, one blank ahead of each");
        fault(" delay 1", 0);
        fault("delay1", 5);
        fault("delay\t1", 5);
        fault("delay!1", 5);
        fault("delay\0371", 5);
        fault("delay  1", 6);
        fault("delay 1 ", 7);
        fault("delay 1; delay 1", 8);
        fault("meet 5  0 1 50", 7);
        fault("meet 5 0  1 50", 9);
        fault("meet 5 0 1  50", 11);
        fault("meet 5 01 50", 8);
        fault("meet 5 0 150", 10);
        fault("meet 500 1 50", 7);
        fault("ask 01 5", 5);
        fault("ask 0 15", 7);
        fault("ask 0 1  5", 8);
        fault("ask 0 1 5 0", 9);
        fault("meet 5 0 1 50 0", 13);
    }

    private static void digits() {
        Check.says("TIME, MEETING, START: 1 or 2 digits; SURE: 1 to 3; all else: a digit.");
        reads("meet 0 0 1 1", 1);
        reads("meet 00 0 1 1", 1);
        reads("meet 99 0 1 1", 1);
        fault("meet 000 0 1 1", 7);
        fault("meet 100 0 1 1", 7);
        fault("meet  0 1 1", 5);
        reads("meet 5 0 1 001", 1);
        reads("meet 5 0 1 01", 1);
        reads("meet 5 0 1 100", 1);
        fault("meet 5 0 1 0001", 14);
        fault("meet 5 0 1 1000", 14);
        fault("meet 5 0 1 ", 11);
        fault("meet 5 00 1 1", 8);
        fault("meet 5 0 01 1", 10);
        reads("meet 5 0 1 1;drop 0", 2);
        reads("meet 5 0 1 1;drop 00", 2);
        reads("drop 99", 0);
        fault("drop 000", 7);
        fault("drop 100", 7);
        reads("ask 0 1 0", 1);
        reads("ask 0 1 00", 1);
        reads("ask 0 1 99", 1);
        fault("ask 0 1 000", 10);
        fault("ask 0 1 100", 10);
        fault("ask 00 1 0", 5);
        fault("ask 0 01 0", 7);
        reads("people 2", 1);
        fault("people 02", 8);
        fault("people 10", 8);
        reads("delay 9", 1);
        fault("delay 09", 7);
        fault("delay 10", 7);
        fault("delay /", 6);
        fault("delay :", 6);
        fault("delay -1", 6);
        fault("delay +1", 6);
        fault("meet 5/ 0 1 1", 6);
        fault("meet 5: 0 1 1", 6);
        fault("meet 5 0 1 1/", 12);
        fault("meet 5 0 1 11:", 13);
        fault("ask 0 1 5.", 9);
    }

    private static void faultOfAWord() {
        Check.says("the first byte of a WORD that is none of these (also at the end)");
        fault("x", 0);
        fault("dela", 0);
        fault("delays", 0);
        fault("delay 1;x", 8);
        fault("delay 1;dela", 8);
        fault("delay 1;askk 0 1 5", 8);
        fault("delay 1;delay 1;m", 16);
        fault("delay 1;delay 1;meets", 16);
        fault("delay 1;" + "z".repeat(92), 8);
        fault("z".repeat(100), 0);
        // A byte that is no letter, where a WORD should be: its WORD has no letters.
        fault("1", 0);
        fault("delay 1;1", 8);
        fault("delay 1;Delay 1", 8);
        Check.says("(from the first byte on, what comes first)");
        fault("delay q;x", 6);
        fault("x;delay q", 0);
        fault("delay 1;x;delay q", 8);
        fault("delay q;delay q", 6);
        fault("x;y", 0);
    }

    private static void faultOfAPlace() {
        Check.says("else the place of the first byte with which none begins so");
        fault("delay", 5);
        fault("delay;", 5);
        fault("delay 1x", 7);
        fault("delay 1;delay 1x", 15);
        fault("meet 1;", 6);
        fault("meet 1 0;", 8);
        fault("meet 1 0 1;", 10);
        fault("meet 1 0 1 ;", 11);
        fault("ask 0;", 5);
        fault("people 3;drop;", 13);
        fault("drop 12 ", 7);
        fault("drop 1a", 6);
        fault("people\n3", 6);
        fault("people 3\n", 8);
        fault("people 3\0", 8);
        fault("\0", 0);
        fault("\177", 0);
    }

    private static void theEndOfTheText() {
        Check.says("(the end of THE TEXT, if it ends too early)");
        fault("delay", 5);
        fault("delay ", 6);
        fault("delay 1;", 8);
        fault("delay 1;delay", 13);
        fault("meet 5", 6);
        fault("meet 55", 7);
        fault("meet 55 ", 8);
        fault("ask 0 1", 7);
        fault("ask 0 1 ", 8);
        fault("drop ", 5);
        fault("meet 55 0 1 100;".repeat(6) + "drop", 100);
        fault("meet 55 0 1 100;".repeat(5) + "meet 5 0 1 100;meet ", 100);
        fault("meet 55 0 1 100;".repeat(6) + "dro", 96);
    }

    /** The FAULT of each beginning of a set-up, told by hand. */
    private static void eachPrefix() {
        Check.says("the place of the first byte with which none begins so (the end of THE TEXT, if it ends too early).");
        String text = "people 4;meet 10 0 1 100;drop 12;ask 0 1 22";
        int[] due = {
            0, 0, 0, 0, 0, 0, 6, 7, -1, 9,
            9, 9, 9, 13, 14, 15, 16, 17, 18, 19,
            20, 21, -1, -1, -1, 25, 25, 25, 25, 29,
            30, -1, -1, 33, 33, 33, 36, 37, 38, 39,
            40, 41, -1, -1,
        };
        for (int length = 0; length <= text.length(); length++) {
            String prefix = text.substring(0, length);
            int semicolons = (int) prefix.chars().filter(c -> c == ';').count();
            if (due[length] >= 0) {
                fault(prefix, due[length]);
            } else {
                // All are done but the third CLAUSE: drop finds no such MEETING.
                reads(prefix, semicolons >= 2 ? semicolons : semicolons + 1);
            }
        }
    }

    /** Each byte of a text becomes each sign; what is due is told once more by Model. */
    private static void eachByte() {
        Check.says("The FAULT (from the first byte on, what comes first)");
        String[] texts = {"people 4;meet 10 0 1 100;ask 0 1 2", "drop 7;delay 3;meet 5 1 2 9", "ask 1 2 33;people 2;drop 12"};
        for (String text : texts) {
            for (int place = 0; place < text.length(); place++) {
                for (int sign = 0; sign < 128; sign++) {
                    String other = text.substring(0, place) + (char) sign + text.substring(place + 1);
                    HandRelay x = new HandRelay();
                    Model y = new Model();
                    for (int i = 0; i < other.length(); i++) {
                        x.feed(other.charAt(i));
                        y.feed(other.charAt(i));
                    }
                    Check.due("read \"" + other + "\"", x.read(), y.read());
                    Check.due("n behind \"" + other + "\"", x.told(0), y.told(0));
                    Check.due("MEETINGS behind \"" + other + "\"", x.told(11), y.told(11));
                }
            }
        }
    }

    private static void done() {
        Script.shows("Without FAULT they are done, one behind the other", """
            text delay 3;delay 5;ask 2 1 9;people 6;meet 1 5 4 9;ask 5 4 1;drop 0;delay 0
            read -> 8
            told 0,1,2,3,4,5 -> 6 0 0 5 4 1
            text meet 1 0 1 9;people 3;meet 2 0 2 8;meet 3 2 1 7
            read -> 4
            told 11 -> 2
            meeting 0 0..3 -> 2 0 2 8
            told 0,3,4,5 -> 3 0 1 0
            text meet 4 1 0 5
            read -> 1
            meeting 2 0..3 -> 4 1 0 5""");
    }

    private static void refusedOnes() {
        String words = "those that would be refused aren't.";
        Script.shows(words, """
            text people 0;people 1;people 7;people 9;delay 2
            read -> 1
            told 0,2 -> 3 2
            text meet 5 0 0 5;meet 5 0 3 5;meet 5 3 0 5;meet 5 0 1 0;meet 5 0 1 101
            read -> 0
            told 11 -> 0
            text meet 5 0 1 999;meet 5 9 9 1;meet 0 0 1 1;meet 99 0 1 100
            read -> 2
            told 11 -> 2
            text drop 2;drop 99;drop 1;drop 1;drop 0;drop 0
            read -> 2
            told 1 -> 0
            text ask 0 3 0;ask 3 0 0;ask 9 9 99
            read -> 0
            told 3,4,5 -> 0 1 0
            text ask 2 1 99
            read -> 1
            told 3,4,5 -> 2 1 99""");
        Script.shows(words, """
            meet 0..12 0 1 50
            text meet 13 0 1 5;meet 14 0 1 5;drop 13;meet 14 0 1 5;drop 14
            read -> 2
            told 11 -> 14 | told 1 -> 13
            text people 2;meet 14 0 1 5;meet 14 0 2 5
            read -> 2
            told 11 -> 1""");
        // ask answers 0 by no WAY, drop 0 by none left: neither is a refusal.
        Script.shows("how many CLAUSES were done", """
            text ask 0 1 0;meet 5 0 1 1;drop 0
            read -> 3""");
    }
}
