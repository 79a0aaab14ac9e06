/** Boundaries of JUDGED rows, THE IMAGE, what is counted, and TAPES (Terms; promises 29 to 36), sentence by sentence. */
public final class BoundsTapesTest {
    /** Four PEOPLE in a row, with a DROPPED MEETING (3) and one back to FROM (4); from 0 to 3 at 2. */
    private static final String IN_A_ROW = """
        people 4 | delay 2
        meet 2 0 1 50 | meet 4 2 1 50 | meet 6 2 3 50 | meet 6 2 3 50 | meet 5 1 0 50 | meet 99 1 2 50
        drop 3 | ask 0 3 2
        tape 0 0 5 | item 0 0..4 0
        """;

    public static void main(String[] args) {
        judge();
        judgeFaults();
        judgeEnds();
        judgeToItself();
        image();
        imageHolds();
        count();
        tape();
        eachSort();
        item();
        peek();
        shift();
        shiftAsTheyWere();
        hostsOrder();
        theLastCall();
        Check.end();
    }

    private static void judge() {
        Script.shows("JUDGED from place i of a TAPE on (-5: FROM is TO, also if it holds nothing; the refusals go ahead of it)."
            + " NONE: tape; CAST: it is no row of bytes.", """
            judge -1,6,MIN,MAX 0,-1 -> NONE
            judge 0..5 0 -> 100
            tape 0..4 0 0 | tape 1 1 2 | tape 2 2 2 | tape 3 3 2 | tape 4 4 2
            judge 0..5 0 -> 100 CAST CAST CAST CAST 100
            judge 0..5 -1 -> 100 CAST CAST CAST CAST 100
            judge 0..5 60 -> 100 CAST CAST CAST CAST 100
            judge 0..5 MIN -> 100 CAST CAST CAST CAST 100
            judge 0..5 MAX -> 100 CAST CAST CAST CAST 100
            tape 1 1 0 | judge 1 0 -> CAST
            tape 1 -1 0 | judge 1 0 -> 100
            ask 2 2 0
            judge 0..6 0 -> -5 -5 CAST CAST CAST -5 NONE
            judge -1 0 -> NONE
            judge 0..5 -1 -> -5 -5 CAST CAST CAST -5""");
    }

    private static void judgeFaults() {
        Script.shows("the first (counted from 0 from that place on) that can't go on so as a WAY does (no such MEETING, DROPPED,"
            + " not of who HOLDS it, too early, to one who had it already)", IN_A_ROW + """
            item 0 1 1 | item 0 2 2
            judge 0 0 -> -5
            item 0 2 3 | judge 0 0 -> 2
            item 0 2 6 | judge 0 0 -> 2
            item 0 2 14 | judge 0 0 -> 2
            item 0 2 127 | judge 0 0 -> 2
            item 0 2 -1 | judge 0 0 -> 2
            item 0 2 -128 | judge 0 0 -> 2
            item 0 2 256 | judge 0 0 -> 2
            item 0 2 258 | judge 0 0 -> -5
            item 0 2 0 | judge 0 0 -> 2
            item 0 2 1 | judge 0 0 -> 2
            item 0 2 5 | judge 0 0 -> 2
            item 0 2 2 | delay 3 | judge 0 0 -> 1
            delay 2 | renew 1 0 3 | judge 0 0 -> 1
            renew 1 0 4 | renew 2 0 5 | judge 0 0 -> 2
            renew 2 0 6 | judge 0 0 -> -5
            ask 0 3 3 | judge 0 0 -> 0
            ask 1 3 0 | judge 0 0 -> 1
            judge 0 1 -> -5
            ask 2 3 0 | judge 0 0 -> 0
            judge 0 2 -> -5
            judge 0 1 -> 1""");
        Script.shows("to one who had it already", IN_A_ROW + """
            item 0 1 4 | judge 0 0 -> 1
            item 0 1 5 | judge 0 0 -> 2
            item 0 2 5 | judge 0 0 -> 2
            item 0 0 4 | judge 0 0 -> 2
            renew 4 0 2 | item 0 1 4 | judge 0 0 -> 1""");
        // Whoever has it in whatever order, only who had it already is refused.
        for (String order : new String[] {"0 1 2 3", "0 2 1 3", "1 0 2 3", "1 2 0 3", "2 0 1 3", "2 1 0 3", "3 2 1 0", "3 1 0 2"}) {
            String[] p = order.split(" ");
            String tellAndJudge = """
                people 4 | meet 1 A B 50 | meet 3 B C 50 | meet 5 C D 50 | meet 5 C B 50 | meet 5 C A 50 | meet 3 B A 50
                ask A D 0
                tape 0 0 4 | item 0 1 1 | item 0 2 2
                judge 0 0 -> -5
                item 0 2 3 | judge 0 0 -> 2
                item 0 2 4 | judge 0 0 -> 2
                item 0 1 5 | judge 0 0 -> 1""";
            Script.shows("to one who had it already", tellAndJudge.replace("A", p[0]).replace("B", p[1]).replace("C", p[2])
                .replace("D", p[3]));
        }
        // A number that was given ahead of people, and 14, which never is.
        Script.shows("no such MEETING", """
            meet 5,6,7 0 1 50
            tape 0 0 1 | item 0 0 2 | judge 0 0 -> -5
            people 3 | judge 0 0 -> 0
            meet 1,2 0 2 50 | judge 0 0 -> 0
            image -> 2
            meet 8 0 1 50 | judge 0 0 -> -5
            undo -> 2
            judge 0 0 -> 0
            meet 0..11 0 1 50
            item 0 0 13 | judge 0 0 -> -5
            item 0 0 14 | judge 0 0 -> 0
            drop 13 | item 0 0 13 | judge 0 0 -> 0""");
        Script.shows("MEETINGS told by a row of bytes, from a place on, one by one, are JUDGED as they hand it on from FROM: the first"
            + " (counted from 0 from that place on)", IN_A_ROW + """
            item 0 4 1 | item 0 3 0
            judge 0 3,4 -> 102 0
            item 0 4 2
            judge 0 3,4 -> 1 0
            ask 2 0 5
            judge 0 3,4 -> 0 101
            ask 3 0 5
            judge 0 3,4 -> 0 101
            ask 3 2 5
            judge 0 3,4 -> 0 -5""");
    }

    private static void judgeEnds() {
        Script.shows("-5: TO HOLDS it behind one of them (or FROM is TO); 100 and how many were looked at, if the row ends ahead of"
            + " that (or the place is below 0, or the TAPE holds nothing).", IN_A_ROW + """
            item 0 1 1 | item 0 2 2 | item 0 3 99 | item 0 4 -1
            judge 0 0 -> -5
            judge 0 5,6,60,MAX -> 100
            judge 0 -1,-2,MIN -> 100
            judge 1 0,-1,MIN,MAX -> 100
            tape 1 0 2 | shift 0 0 1 0 2 | judge 1 0 -> 102
            tape 1 0 1 | judge 1 0,1,2 -> 101 100 100
            tape 1 0 0 | judge 1 0,1,-1 -> 100
            tape 1 0 3 | shift 0 0 1 0 3 | judge 1 0 -> -5
            tape 1 0 60 | shift 0 0 1 57 3
            judge 1 57,58,59,60 -> -5 0 0 100
            ask 0 1 0 | judge 1 57 -> -5
            judge 1 56 -> -5""");
        Script.shows("how many were looked at, if the row ends ahead of", """
            people 6 | delay 0
            meet 9 0 1 50 | meet 9 1 2 50 | meet 9 2 3 50 | meet 9 3 4 50
            tape 2 0 4 | item 2 1 1 | item 2 2 2 | item 2 3 3
            ask 0 5 0
            judge 2 0 -> 104
            ask 0 4 0
            judge 2 0 -> -5""");
    }

    private static void judgeToItself() {
        Script.shows("or FROM is TO", """
            ask 1 1 0 | meet 5 0 1 50
            judge 0..5 0 -> -5
            judge 0..5 -1,60,MIN,MAX -> -5
            tape 0 0 3 | item 0 0..2 99
            judge 0 0,3,-1 -> -5
            tape 0 0 0 | judge 0 0 -> -5
            tape 0 4 3 | judge 0 0 -> CAST
            judge 6,-1 0 -> NONE""");
    }

    private static void image() {
        Script.shows("All is as THE IMAGE: how many MEETINGS are there. STATE: there is none.", """
            undo -> STATE
            meet 5 0 1 50
            undo -> STATE
            told 11 -> 1
            image -> 1
            undo,undo -> 1
            drop 0 -> 0
            undo -> 1
            meeting 0 0 -> 5
            people 2
            undo -> 1
            told 0 -> 3
            people 2
            undo -> 1""");
        Script.shows("THE IMAGE is taken: how many MEETINGS are there.", """
            image -> 0
            meet 0..13 0 1 50
            image -> 14
            drop 13 -> 13
            image -> 13
            people 3
            undo -> 13
            meeting 12,13 0 -> 12 NOTHING
            drop 0..12
            image -> 0
            undo -> 0
            meet 5 0 1 50 -> FULL
            people 3
            image -> 0
            meet 5 0 1 50 -> 0
            undo -> 0
            meet 5 0 1 50 -> 0""");
    }

    private static void imageHolds() {
        Script.shows("THE IMAGE: n, MEETINGS, DELAY, THE QUESTION, SEEN, EVENTS, the BOOK.", """
            people 4 | meet 99 3 2 100 | meet 0 2 1 1 | drop 1 | delay 9 | ask 3 2 98
            see 0 0,1,2,3,4,5 false | event 3 0,1,2,3,4,5,6,99 | book 2 99,99,99,99,99,99,99,98
            image -> 1
            people 6 | delay 0 | meet 5 0 1 50 | ask 5 4 3
            see 5 99,98,97,96,95,94 true | event 1 9,8,7,6,5,4,3,2 | book 5 1,2,3,4,5,6,7,8
            undo -> 1
            told 0..7 -> 4 1 9 3 2 98 1 99
            told 11 -> 2
            meeting 0 0..3 -> 99 3 2 100
            meeting 1 0 -> NOTHING
            count 0..2 -> 6 8 8
            see 0 0 true -> FULL
            event 3 0 -> FULL
            book 0 0 -> FULL
            looked -> 7
            after 0..2 -> 99 1 1
            fits 0,1 -> 21 0
            renew 0 0 5 | renew 0 1 7
            undo -> 1
            meeting 0 0..3 -> 99 3 2 100""");
        Script.shows("All is as THE IMAGE", """
            image -> 0
            see 0 0 false | event 1 1 | book 1 9 | delay 5
            fits 0 -> 20
            undo -> 0
            count 0..2 -> 0
            fits 0 -> 21
            looked -> -5
            told 2 -> 1
            see 0 5 true | image -> 0
            see -1 0 true | see 0 5 false
            fits 0,1 -> 15 6
            undo -> 0
            fits 0,1 -> 6 0""");
        // THE TEXT and TAPES aren't named among what THE IMAGE holds.
        Script.shows("THE IMAGE: n, MEETINGS, DELAY, THE QUESTION, SEEN, EVENTS, the BOOK.", """
            feed 100 | tape 0 3 2 | item 0 1 7
            image -> 0
            text elay 6
            item 0 1 8 | tape 1 0 1
            undo -> 0
            count 3 -> 7
            peek 0 0,1,2 -> 0 8 NO
            peek 1 0 -> 0
            read -> 1
            told 2 -> 6
            undo -> 0
            told 2 -> 1
            count 3 -> 0""");
    }

    private static void count() {
        Script.shows("How many: 0 SEEN, 1 EVENTS, 2 of the BOOK, 3 bytes of THE TEXT. BAD.", """
            count -1,4,MIN,MAX -> BAD
            count 0..3 -> 0
            see 0 0 true | event 1 1,1 | book 0 0,0,0
            text abcd
            count 0..3 -> 1 2 3 4
            count -1,4 -> BAD
            see -1 0 true | event -1 0 | book -1 0
            read -> -10
            count 0..3 -> 0
            see 0 0,1,2,3,4,5 true | event 1 1,1,1,1,1,1,1,1 | book 0 0,1,2,3,4,5,6,7
            text aaaaaaaaaaaaaaaaaaaaaaaaaaaaaaaaaaaaaaaaaaaaaaaaaaaaaaaaaaaaaaaaaaaaaaaaaaaaaaaaaaaaaaaaaaaaaaaaaaaa
            count 0..3 -> 6 8 8 100""");
    }

    private static void tape() {
        Script.shows("A TAPE becomes a row of n (0 .. 60) of a sort, all 0, or holds nothing (sort -1: n does not matter): 1. NONE:"
            + " tape; BAD: sort, n above 60; SIZE.", """
            tape -1,6,MIN,MAX 0 5 -> NONE
            tape -1,6 -1 5 -> NONE
            tape -1,6 5,-2 61,-1 -> NONE
            tape 0 -2,5,MIN,MAX 0,5,-1,61 -> BAD
            tape 0 0..4 61,MAX -> BAD
            tape 0 0..4 -1,MIN -> SIZE
            item 0 0 1 -> NOTHING
            tape 0 0..4 0,1,60 -> 1
            tape 0 -1 0,-1,61,MIN,MAX -> 1
            item 0 0 1 -> NOTHING
            tape 0 3 60 | item 0 0,59 7
            tape 0 3 -1 -> SIZE
            tape 0 3 61 -> BAD
            tape 0 5 3 -> BAD
            peek 0 0,1,59,60 -> 7 0 7 NO
            tape 0 3 60
            peek 0 0,59 -> 0
            item 0 0,59 7
            tape 0 3 1 | tape 0 3 60
            peek 0 0,59 -> 0""");
        Script.shows("TAPES 0 .. 5 hold nothing (at first)", """
            peek -1..6 0 -> NO
            item 0..5 0 0 -> NOTHING
            item -1,6,MIN,MAX 0 0 -> NONE
            tape 0,5 0 1 -> 1
            item 0..5 0 9 -> 1 NOTHING NOTHING NOTHING NOTHING 1
            peek 0..5 0 -> 9 NO NO NO NO 9
            tape 0 0 0
            item 0 0 9 -> PLACE
            tape 0 -1 5
            item 0 0 9 -> NOTHING""");
    }

    private static void eachSort() {
        Script.shows("a row of 0 bytes, 1 shorts, 2 ints, 3 longs, 4 booleans (items 0, 1)", """
            tape 0 0 1 | tape 1 1 1 | tape 2 2 1 | tape 3 3 1 | tape 4 4 1
            item 0..4 0 -1 | peek 0..4 0 -> -1 -1 -1 -1 1
            item 0..4 0 127 | peek 0..4 0 -> 127 127 127 127 1
            item 0..4 0 128 | peek 0..4 0 -> -128 128 128 128 1
            item 0..4 0 256 | peek 0..4 0 -> 0 256 256 256 1
            item 0..4 0 32767 | peek 0..4 0 -> -1 32767 32767 32767 1
            item 0..4 0 32768 | peek 0..4 0 -> 0 -32768 32768 32768 1
            item 0..4 0 65536 | peek 0..4 0 -> 0 0 65536 65536 1
            item 0..4 0 2147483647 | peek 0..4 0 -> -1 -1 2147483647 2147483647 1
            item 0..4 0 2147483648 | peek 0..4 0 -> 0 0 -2147483648 2147483648 1
            item 0..4 0 4294967296 | peek 0..4 0 -> 0 0 0 4294967296 1
            item 0..4 0 MAX | peek 0..4 0 -> -1 -1 -1 9223372036854775807 1
            item 0..4 0 MIN | peek 0..4 0 -> 0 0 0 NO 1
            item 0..4 0 -129 | peek 0..4 0 -> 127 -129 -129 -129 1
            item 0..4 0 -32769 | peek 0..4 0 -> -1 32767 -32769 -32769 1
            item 0..4 0 -2147483649 | peek 0..4 0 -> -1 -1 2147483647 -2147483649 1
            item 0..4 0 0 | peek 0..4 0 -> 0
            item 0..4 0 1 | peek 0..4 0 -> 1""");
    }

    private static void item() {
        Script.shows("Item i of a TAPE becomes v (its lowest bits, as many as an item has; booleans: whether v is not 0): 1. NONE;"
            + " NOTHING; PLACE.", """
            item -1,6,MIN,MAX 0,-1,60 1 -> NONE
            item 0,5 0,-1,60,MIN,MAX 1 -> NOTHING
            tape 0 0 0
            item 0 0,-1,1,60,MIN,MAX 1 -> PLACE
            tape 5 4 60
            item 5 -1,60,61,MIN,MAX 1 -> PLACE
            item 5 0,59 1 -> 1
            peek 5 0,1,58,59,60 -> 1 0 0 1 NO
            item 5 59 256 -> 1
            peek 5 59 -> 1
            item 5 59 MIN -> 1
            peek 5 59 -> 1
            item 5 59 0 -> 1
            peek 5 59 -> 0
            tape 5 4 3
            item 5 2,3 1 -> 1 PLACE
            tape 5 -1 3
            item 5 2 1 -> NOTHING""");
    }

    private static void peek() {
        Script.shows("Item i of a TAPE. NO: no such TAPE, nothing there, no such place.", """
            peek -1,6,MIN,MAX 0,-1,60 -> NO
            peek 0..5 0,-1,60 -> NO
            tape 3 3 60 | item 3 0 5 | item 3 59 6
            peek 3 -1,0,1,58,59,60,MIN,MAX -> NO 5 0 0 6 NO NO NO
            tape 3 3 1
            peek 3 -1,0,1,59 -> NO 0 NO NO
            tape 3 3 0
            peek 3 0 -> NO
            tape 3 -1 9
            peek 3 0 -> NO""");
    }

    private static void shift() {
        String tapes = """
            tape 0 0 5 | item 0 0 1 | item 0 1 2 | item 0 2 3 | item 0 3 4 | item 0 4 5
            tape 1 0 3 | item 1 0 6 | item 1 1 7 | item 1 2 8
            tape 2 1 3 | tape 5 0 0
            """;
        Script.shows("NONE: tapes; NOTHING; CAST: of unlike sorts; PLACE: n, i or j is below 0, or beyond either's end.", tapes + """
            shift -1,6,MIN,MAX 0 1 0 1 -> NONE
            shift 0 0 -1,6,MIN,MAX 0 1 -> NONE
            shift 3 0 6 0 1 -> NONE
            shift 6 0 3 0 -1 -> NONE
            shift 2 0 6 0 1 -> NONE
            shift 3 0 0 0 1 -> NOTHING
            shift 0 0 3 0 1 -> NOTHING
            shift 3 0 3 0 0 -> NOTHING
            shift 3 -1 2 -1 -1 -> NOTHING
            shift 0 0 2 0 1 -> CAST
            shift 2 0 0 0 1 -> CAST
            shift 0 -1 2 9 -1 -> CAST
            shift 5 0 2 0 0 -> CAST
            shift 0 0 1 0 -1,4,MIN,MAX -> PLACE
            shift 0 -1,6,MIN,MAX 1 0 0 -> PLACE
            shift 0 0 1 -1,4,MIN,MAX 0 -> PLACE
            shift 0 3 1 0 3 -> PLACE
            shift 0 0 1 1 3 -> PLACE
            shift 0 5 1 0 1 -> PLACE
            shift 0 0 1 3 1 -> PLACE
            shift 1 0 0 0 4 -> PLACE
            shift 0 1 1 0 MAX -> PLACE
            shift 0 MAX 1 0 1 -> PLACE
            shift 0 MAX 1 MAX MAX -> PLACE
            shift 0 0 1 MAX 1 -> PLACE
            shift 0 0 5 0 1 -> PLACE
            shift 5 0 0 0 1 -> PLACE
            shift 5 1 0 0 0 -> PLACE
            shift 0 0 0 1 5 -> PLACE
            peek 0 0..5 -> 1 2 3 4 5 NO
            peek 1 0..3 -> 6 7 8 NO""");
        Script.shows("n items of a TAPE from i on come to another one (or the same) from j on, as they all were before: n.", tapes + """
            shift 0 0 1 0 0 -> 0
            shift 0 5 1 3 0 -> 0
            shift 5 0 0 0 0 -> 0
            shift 0 5 5 0 0 -> 0
            shift 5 0 5 0 0 -> 0
            peek 0 0..5 -> 1 2 3 4 5 NO
            peek 1 0..3 -> 6 7 8 NO
            shift 0 4 1 2 1 -> 1
            peek 1 0..3 -> 6 7 5 NO
            shift 0 2 1 0 3 -> 3
            peek 1 0..3 -> 3 4 5 NO
            peek 0 0..5 -> 1 2 3 4 5 NO
            shift 1 0 0 0 3 -> 3
            peek 0 0..5 -> 3 4 5 4 5 NO""");
        Script.shows("n items of a TAPE from i on come to another one", """
            tape 0 3 60 | tape 1 3 60
            item 0 0 7 | item 0 59 8
            shift 0 0 1 0 60 -> 60
            peek 1 0,1,59,60 -> 7 0 8 NO
            shift 0 59 1 0 1 -> 1
            peek 1 0,1,59,60 -> 8 0 8 NO
            shift 0 0 1 0 61 -> PLACE
            shift 0 59 1 0 2 -> PLACE
            shift 0 60 1 60 0 -> 0
            shift 0 60 1 60 1 -> PLACE""");
    }

    private static void shiftAsTheyWere() {
        String five = "tape 0 2 5 | item 0 0 1 | item 0 1 2 | item 0 2 3 | item 0 3 4 | item 0 4 5\n";
        String words = "(or the same) from j on, as they all were before";
        Script.shows(words, five + "shift 0 0 0 1 4 -> 4\n" + "peek 0 0..5 -> 1 1 2 3 4 NO");
        Script.shows(words, five + "shift 0 1 0 0 4 -> 4\n" + "peek 0 0..5 -> 2 3 4 5 5 NO");
        Script.shows(words, five + "shift 0 0 0 2 3 -> 3\n" + "peek 0 0..5 -> 1 2 1 2 3 NO");
        Script.shows(words, five + "shift 0 2 0 0 3 -> 3\n" + "peek 0 0..5 -> 3 4 5 4 5 NO");
        Script.shows(words, five + "shift 0 0 0 0 5 -> 5\n" + "peek 0 0..5 -> 1 2 3 4 5 NO");
        Script.shows(words, five + "shift 0 0 0 3 2 -> 2\n" + "peek 0 0..5 -> 1 2 3 1 2 NO");
    }

    private static void hostsOrder() {
        Script.shows("The host's refusals: NOTHING (-11): nothing is there; CAST (-12): another sort; PLACE (-13): no such place; SIZE"
            + " (-14): a size below 0.", """
            item 0 0 1 -> -11
            shift 0 0 1 0 1 -> -11
            drop 0 -> -13
            meet 5 0 1 50 | drop 0 | drop 0 -> -11
            tape 0 0 1 | tape 1 1 1
            shift 0 0 1 0 1 -> -12
            judge 1 0 -> -12
            item 0 1 1 -> -13
            shift 0 1 0 0 1 -> -13
            tape 0 0 -1 -> -14""");
        Script.shows("Answers: NONE (-1) no such number; BAD (-2) a number is not as told; STATE (-3) as told; FULL (-4); the first"
            + " that a call's words name.", """
            told -1 -> -1
            people 1 -> -2
            undo -> -3
            see 0 0,0,0,0,0,0 true
            see 0 0 true -> -4""");
    }

    private static void theLastCall() {
        StringBuilder calls = new StringBuilder("people 6 | delay 0 | tape 5 3 60\n");
        for (int k = 4; k < 510; k++) {
            calls.append(k < 18 ? "meet 9 0 5 50\n" : "people 7 -> BAD\n");
        }
        Script.shows("An object is used for at most 512 calls after it has been made; what later calls answer is free.", calls
            + "ask 0 5 9 -> 14\n" + "item 5 59 7 -> 1\n" + "peek 5 59 -> 7\n");
    }
}
