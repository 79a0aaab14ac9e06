/** Boundaries of WAYS, RULES and REACH, AGENDA, RANKS, BY, LATEST, CUTS (Terms; promises 11 to 20), sentence by sentence. */
public final class BoundsWaysTest {
    public static void main(String[] args) {
        startAndDelay();
        whoHoldsIt();
        fromIsTo();
        surenessBounds();
        rules();
        numbersBreakTies();
        reach();
        wayAndHolder();
        surenessByRule();
        by();
        agendaAndRank();
        between();
        latest();
        cuts();
        told();
        Check.end();
    }

    private static void startAndDelay() {
        Script.shows("A WAY: MEETINGS, one behind the other: FROM is of the first one, whose TIME is START or more", """
            meet 5 0 1 50
            ask 0 1 0,4,5,6,99 -> 1 1 1 0 0
            ask 1 0 0,4,5,6,99 -> 1 1 1 0 0
            ask 0 2 0 -> 0
            ask 2 1 0 -> 0
            renew 0 0 0
            ask 0 1 0,1 -> 1 0
            renew 0 0 99
            ask 0 1 98,99 -> 1
            delay 9
            told 6 -> 1""");
        Script.shows("of each next one who HOLDS it is one, its TIME is that of the one ahead and DELAY, together, or more", """
            meet 5 0 1 50 | meet 5 1 2 50
            delay 0
            ask 0 2 0 -> 1
            renew 1 0 4 | told 6 -> 0
            delay 1
            renew 1 0 5 | told 6 -> 0
            renew 1 0 6 | told 6 -> 1
            delay 9 | told 6 -> 0
            renew 1 0 13 | told 6 -> 0
            renew 1 0 14 | told 6 -> 1
            renew 0 0 90 | renew 1 0 99 | told 6 -> 1
            reach 2 -> 99
            renew 0 0 91 | told 6 -> 0
            reach 2 -> -5
            renew 0 0 99 | delay 0 | told 6 -> 1
            delay 1 | told 6 -> 0
            drop 1 | meet 99 0 2 50 | told 6 -> 1
            people 4 | delay 0 | meet 1 0 1 50 | meet 2 2 3 50
            ask 0 3 0 -> 0""");
    }

    private static void whoHoldsIt() {
        Script.shows("who isn't FROM there HOLDS it then", """
            meet 1 0 1 50 | meet 3 2 1 50
            ask 0 1 0 -> 1
            holder 0..2 0,1,2 -> 0 1 NONE 0 1 NONE 0 1 NONE
            ask 1 0 0 -> 1
            holder 0..2 0,1,2 -> 1 0 NONE 1 0 NONE 1 0 NONE
            ask 1 2 0 -> 1
            holder 0 1 -> 2""");
        Script.shows("HANDS: how many MEETINGS. ARRIVAL: TIME of the last one.", """
            people 6 | meet 0 0 1 50 | meet 1 1 2 50 | meet 2 2 3 50 | meet 3 3 4 50 | meet 99 4 5 50
            ask 0 1 0 -> 1
            way 0..2 -2 -> 0
            way 0..2 -1 -> 1
            ask 0 5 0 -> 1
            way 0..2 -2 -> 99
            way 0..2 -1 -> 5
            ask 0 4 0 -> 1
            way 0..2 -2 -> 3
            way 0..2 -1 -> 4""");
        Script.shows("nobody HOLDS it twice (FROM HOLDS it at first)", """
            people 4
            meet 1 0 1 50 | meet 3 1 0 50 | meet 5 0 2 50
            ask 0 2 0 -> 1
            people 4
            meet 1 0 1 50 | meet 3 1 2 50 | meet 5 2 1 50 | meet 7 1 3 50
            ask 0 3 0 -> 1
            way 0 -1,0,1 -> 2 0 3
            people 2 | delay 0
            meet 0..13 0 1 50
            ask 0 1 0 -> 14
            ask 1 0 0 -> 14""");
        // Back to FROM and on from there, whoever FROM is.
        for (int from = 0; from < 6; from++) {
            String tellAndAsk = """
                people 6 | meet 1 FROM OTHER 50 | meet 3 OTHER FROM 50 | meet 5 TO FROM 50
                ask FROM OTHER 0 -> 2
                ask FROM TO 0 -> 1
                way 0..2 0 -> 2
                tape 0 0 3 | item 0 1 1 | item 0 2 2
                judge 0 0,1,2 -> 1 1 -5""";
            Script.shows("nobody HOLDS it twice (FROM HOLDS it at first)", tellAndAsk.replace("FROM", "" + from)
                .replace("OTHER", "" + (from + 1) % 6).replace("TO", "" + (from + 2) % 6));
        }
        Script.shows("TO HOLDS it at last, not ahead of that", """
            people 4
            meet 1 0 1 50 | meet 3 1 2 50 | meet 5 2 3 50 | meet 7 3 1 50
            ask 0 1 0 -> 1
            ask 0 2 0 -> 1
            ask 0 3 0 -> 2
            drop 2
            ask 0 3 0 -> 1""");
        Script.shows("the other one HOLDS it then", """
            meet 1 1 0 50 | meet 3 1 2 50
            ask 0 2 0 -> 1
            holder 0 0..3 -> 0 1 2 NONE
            ask 2 0 0 -> 0""");
    }

    private static void fromIsTo() {
        Script.shows("If FROM is TO, there is one WAY, without MEETINGS, ARRIVAL is START.", """
            meet 1 0 1 50 | meet 3 0 1 50
            ask 1 1 0 -> 1
            way 0..2 -2 -> 0
            by 0..5 -> 0
            ask 1 1 99 -> 1
            way 0..2 -1 -> 0
            way 0..2 -2 -> 99
            way 0..2 0,1,-3 -> NONE
            holder 0..2 0 -> 1
            holder 0..2 1,-1 -> NONE
            sureness 0..2 0,1 -> 1
            by 0..5 -> 99
            told 6,7,8,9,10 -> 1 99 0 -5 2
            cut 0,1,4,5 -> 0
            cut 2 -> BAD
            odds 0,1 -> 1
            after 0..2 -> 99 0 1
            drop 0,1
            told 6 -> 1
            odds 0,1 -> NO""");
    }

    private static void surenessBounds() {
        String fiveInARow = """
            people 6 | delay 0
            meet 9 0 1 100 | meet 9 1 2 100 | meet 9 2 3 100 | meet 9 3 4 100 | meet 9 4 5 100
            ask 0 5 0 -> 1
            """;
        Script.shows("SURENESS: all SURES by a hundred each, one times the other.", fiveInARow + """
            sureness 0..2 0,1 -> 1
            renew 0 1 1
            sureness 0..2 0,1 -> 1 100 1 100 1 100
            renew 1..4 1 1
            sureness 0..2 0 -> 1
            sureness 0..2 1 -> 10000000000
            renew 0..4 1 99
            sureness 0..2 0 -> 9509900499
            sureness 0..2 1 -> 10000000000
            renew 0..4 1 50
            sureness 0..2 0,1 -> 1 32 1 32 1 32""");
        // One in ten thousand million more is more.
        Script.shows("2 SUREST: that of greatest SURENESS", fiveInARow + """
            renew 0..4 1 1
            meet 8 0 5 1
            way 2 -1 -> 1
            drop 5
            meet 10 4 5 2
            way 2 4 -> 6
            renew 6 1 1
            way 2 4 -> 4""");
    }

    private static void rules() {
        Script.shows("THE WAY by a RULE: of all WAYS 0 EARLY: that of least ARRIVAL, of several that of fewest HANDS", """
            meet 1 0 1 50 | meet 8 1 2 50 | meet 9 0 2 100
            ask 0 2 0 -> 2
            way 0 -2..1 -> 8 2 0 1
            renew 2 0 8
            way 0 -2..1 -> 8 1 2 NONE""");
        Script.shows("1 FEW: that of fewest HANDS, of several that of least ARRIVAL", """
            people 4
            meet 1 0 1 50 | meet 8 1 3 50 | meet 99 0 3 1
            ask 0 3 0 -> 2
            way 1 -2..1 -> 99 1 2 NONE
            drop 2 | meet 2 0 2 100 | meet 9 2 3 100
            way 1 -2..1 -> 8 2 0 1
            renew 1 0 10
            way 1 -2..1 -> 9 2 3 4""");
        Script.shows("2 SUREST: that of greatest SURENESS, of several that of least ARRIVAL, of several of these that of"
            + " fewest HANDS", """
            meet 1 0 1 100 | meet 8 1 2 51 | meet 7 0 2 50
            ask 0 2 0 -> 2
            way 2 -2..1 -> 8 2 0 1
            renew 1 1 50
            way 2 -2..1 -> 7 1 2 NONE
            renew 2 0 9
            way 2 -2..1 -> 8 2 0 1
            renew 2 0 8
            way 2 -2..1 -> 8 1 2 NONE
            renew 2 1 49
            way 2 -2..1 -> 8 2 0 1""");
    }

    private static void numbersBreakTies() {
        String words = "Of several by all that whose first MEETING has the least number, of several of these the second one,"
            + " and so on.";
        Script.shows(words, """
            people 4 | delay 0
            meet 5 2 3 50 | meet 5 0 2 50 | meet 5 0 1 50 | meet 5 1 3 50 | meet 5 0 1 50
            ask 0 3 0 -> 3
            way 0..2 0 -> 1
            way 0..2 1 -> 0
            drop 1
            way 0..2 0 -> 2
            way 0..2 1 -> 3""");
        Script.shows(words, """
            people 4 | delay 0
            meet 5 1 3 50 | meet 5 1 3 50 | meet 5 0 1 50 | meet 5 0 1 50
            ask 0 3 0 -> 4
            way 0..2 0 -> 2
            way 0..2 1 -> 0
            drop 0,2
            way 0..2 0 -> 3
            way 0..2 1 -> 1""");
        Script.shows(words, """
            people 6 | delay 0
            meet 5 4 5 50 | meet 5 4 5 50 | meet 5 3 4 50 | meet 5 3 4 50 | meet 5 2 3 50 | meet 5 2 3 50
            meet 5 1 2 50 | meet 5 1 2 50 | meet 5 0 1 50 | meet 5 0 1 50
            ask 0 5 0 -> 32
            way 0..2 0 -> 8
            way 0..2 1 -> 6
            way 0..2 2 -> 4
            way 0..2 3 -> 2
            way 0..2 4 -> 0
            way 0..2 5 -> NONE
            drop 0
            way 0..2 4 -> 1
            way 0..2 3 -> 2
            drop 4
            way 0..2 2 -> 5""");
    }

    private static void reach() {
        Script.shows("REACH of a PERSON: the least ARRIVAL, were that TO (of FROM: START; -5: no WAY).", """
            meet 0 0 1 50 | meet 99 1 2 50
            reach 0,1,2 -> 0 0 99
            ask 0 1 99 -> 0
            reach 0,1,2 -> 99 -5 -5
            ask 2 1 99 -> 1
            reach 0,1,2 -> -5 99 99
            ask 1 1 0 -> 1
            reach 0,1,2 -> 0 0 99
            drop 0,1
            reach 0,1,2 -> -5 0 -5""");
        Script.shows("REACH; -5. NONE.", """
            people 6 | meet 7 0 5 50
            reach -2..7 -> NONE NONE 0 -5 -5 -5 -5 7 NONE NONE
            reach MIN,MAX -> NONE""");
    }

    private static void wayAndHolder() {
        Script.shows("The k-th MEETING (from 0) of THE WAY by a RULE; k -1: HANDS; k -2: ARRIVAL. BAD: rule; -5: there is no WAY (whatever k is);"
            + " NONE: k.", """
            way -1,3,MIN,MAX -2..1 -> BAD
            way -1,3,MIN,MAX MIN,MAX -> BAD
            way 0..2 -3..2 -> -5
            way 0..2 MIN,MAX -> -5
            meet 5 0 1 50
            way -1,3,MIN,MAX 0,9 -> BAD
            way 0..2 -2 -> 5
            way 0..2 -1 -> 1
            way 0..2 0 -> 0
            way 0..2 -3,1,2,5,6,MIN,MAX -> NONE""");
        Script.shows("Who HOLDS it behind k HANDS of THE WAY by a RULE (0: FROM). BAD: rule; -5: there is no WAY; NONE: k.", """
            holder -1,3,MIN,MAX 0,9 -> BAD
            holder 0..2 -1..2 -> -5
            holder 0..2 MIN,MAX -> -5
            meet 5 1 0 50
            holder -1,3,MIN,MAX 0,9 -> BAD
            holder 0..2 0 -> 0
            holder 0..2 1 -> 1
            holder 0..2 -1,-2,2,6,MIN,MAX -> NONE
            ask 1 0 0
            holder 0..2 0,1 -> 1 0 1 0 1 0""");
        Script.shows("NONE: k.", """
            people 6 | delay 0
            meet 9 0 1 50 | meet 9 1 2 50 | meet 9 2 3 50 | meet 9 3 4 50 | meet 9 4 5 50
            ask 0 5 0 -> 1
            way 0..2 4 -> 4
            way 0..2 5 -> NONE
            holder 0..2 5 -> 5
            holder 0..2 6 -> NONE""");
    }

    private static void surenessByRule() {
        Script.shows("SURENESS of THE WAY by a RULE; part 0 above, 1 below the line, in lowest terms. NO: rule, part; there is no"
            + " WAY.", """
            sureness -1..3 -1..2 -> NO
            meet 5 0 1 60
            sureness 0..2 0,1 -> 3 5 3 5 3 5
            sureness 0..2 -1,2,MIN,MAX -> NO
            sureness -1,3,MIN,MAX 0,1 -> NO
            renew 0 1 100 | sureness 0 0,1 -> 1
            renew 0 1 1 | sureness 0 0,1 -> 1 100
            renew 0 1 99 | sureness 0 0,1 -> 99 100""");
    }

    private static void by() {
        Script.shows("BY k HANDS (0 .. 5); -5: there is no such WAY. BAD: k.", """
            people 6
            by 0..5 -> -5
            by -1,6,MIN,MAX -> BAD
            meet 1 0 1 50 | meet 2 1 2 50 | meet 3 2 3 50 | meet 4 3 4 50 | meet 5 4 5 50 | meet 99 0 5 50
            ask 0 5 0
            by 0..5 -> -5 99 99 99 99 5
            by -1,6,MIN,MAX -> BAD
            drop 5
            by 0..5 -> -5 -5 -5 -5 -5 5
            renew 4 0 99
            by 4,5 -> -5 99
            people 2 | meet 0 0 1 50
            by 0..5 -> -5 0 0 0 0 0
            by -1,6 -> BAD""");
        Script.shows("BY k HANDS: the least ARRIVAL of WAYS of k HANDS or fewer.", """
            people 4
            meet 7 0 3 50 | meet 9 0 3 50 | meet 1 0 1 50 | meet 8 1 3 50 | meet 5 1 2 50 | meet 6 2 3 50
            ask 0 3 0 -> 4
            by 0..5 -> -5 7 7 6 6 6
            renew 5 0 8
            by 0..5 -> -5 7 7 7 7 7""");
        // Earlier by 1 is earlier, whichever came first.
        Script.shows("BY k HANDS: the least ARRIVAL of WAYS", """
            meet 8 0 2 50 | meet 7 0 2 50 | meet 8 2 0 50 | meet 5 1 2 50 | meet 1 0 1 50 | meet 4 1 2 50
            ask 0 2 0 -> 5
            by 0..3 -> -5 7 4 4
            drop 1 | by 1,2 -> 8 4
            drop 5 | by 1,2 -> 8 5
            meet 6 2 0 50 | by 1,2 -> 6 5
            renew 3 0 7 | by 1,2 -> 6 6""");
    }

    private static void agendaAndRank() {
        Script.shows("AGENDA: MEETINGS that are there by TIME, the least first, of several the least number.", """
            meet 99 0 1 50 | meet 0 0 1 50 | meet 99 0 1 50 | meet 0 0 1 50 | meet 50 0 1 50
            agenda 0..5 -> 1 3 4 0 2 -5
            drop 1,0
            agenda 0..5 -> 3 4 2 -5 -5 -5""");
        Script.shows("The k-th (from 0) of the AGENDA; -5: there are not so many. NONE: k is below 0.", """
            agenda -1,MIN,0,1,MAX -> NONE NONE -5 -5 -5
            meet 13,12,11,10,9,8,7,6,5,4,3,2,1,0 0 1 50
            agenda 0..14 -> 13 12 11 10 9 8 7 6 5 4 3 2 1 0 -5
            agenda -1,-2,MIN,MAX -> NONE NONE NONE -5
            drop 0..13
            agenda 0,13,-1 -> -5 -5 NONE""");
        Script.shows("RANKS: PEOPLE with a REACH by REACH, the least first, of several the greatest number first.", """
            people 5 | delay 0
            rank 0,1 -> 0 -5
            meet 0 0 1 50 | meet 0 1 3 50 | meet 9 0 4 50
            rank 0..5 -> 3 1 0 4 -5 -5
            ask 2 0 99
            rank 0,1 -> 2 -5""");
        Script.shows("The k-th (from 0) of RANKS; -5: there are not so many. NONE: k is below 0.", """
            rank -1,MIN,0,1,MAX -> NONE NONE 0 -5 -5
            people 6
            meet 5,5,6,7,8 0 5 50 | meet 5 0 1 50 | meet 6 0 2 50 | meet 6 0 3 50 | meet 99 0 4 50
            rank 0..6 -> 0 5 1 3 2 4 -5
            rank -1,MIN,MAX -> NONE NONE -5""");
    }

    private static void between() {
        Script.shows("MEETINGS that are there of two PEOPLE (BITS of their numbers). NONE: i, j, one twice.", """
            between 0 1 -> 0
            between 0,1,2 0,1,2 -> NONE 0 0 0 NONE 0 0 0 NONE
            between -1,3,MIN,MAX 0 -> NONE
            between 0 -1,3,MIN,MAX -> NONE
            between 3,-1 3 -> NONE
            meet 0..6 0 1 50 | meet 7..13 1 0 50
            between 0,1 1,0 -> 16383 NONE NONE 16383
            between 0,1 2 -> 0
            drop 0,13
            between 0 1 -> 8190
            people 6 | meet 5 5 4 50
            between 4 5,6 -> 1 NONE
            between 5 4 -> 1""");
    }

    private static void latest() {
        Script.shows("LATEST: the greatest START (0 .. 99) by which there is a WAY (-5: none).", """
            told 7 -> -5
            meet 0 0 1 50 | told 7 -> 0
            renew 0 0 99 | told 7 -> 99
            ask 0 1 99 -> 1
            told 7 -> 99
            renew 0 0 98 | told 7 -> 98
            told 6 -> 0
            ask 0 2 0 -> 0
            told 7 -> -5
            meet 99 1 2 50 | told 7 -> 98
            delay 2 | told 7 -> -5
            ask 2 2 0 | told 7 -> 99
            told 5 -> 0""");
    }

    private static void cuts() {
        Script.shows("CUT: a set of PEOPLE (BITS: of each PERSON p 2 to the p, together) without FROM and TO, such that there"
            + " is no WAY in which none of them HOLDS it.", """
            people 4
            cut 0,4,8,12 -> 1
            meet 1 0 2 50 | meet 3 2 3 50
            ask 0 3 0 -> 1
            cut 0,2,4,6 -> 0 0 1 1
            meet 1 0 1 50 | meet 3 1 3 50
            cut 0,2,4,6 -> 0 0 0 1
            meet 5 0 3 50
            cut 0,2,4,6 -> 0
            ask 1 2 0 -> 0
            cut 0,1,8,9 -> 1""");
        // Nobody hands it on who may not HOLD it, whoever of the two was told first.
        for (String first : new String[] {"0 1", "1 0"}) {
            for (String second : new String[] {"1 2", "2 1"}) {
                String tellAndAsk = """
                    meet 1 FIRST 50 | meet 3 SECOND 50
                    ask 0 2 0 -> 1
                    cut 0,2 -> 0 1
                    told 8,9 -> 2
                    renew 0 0 5
                    ask 2 0 0 -> 1
                    cut 0,2 -> 0 1""";
                Script.shows("there is no WAY in which none of them HOLDS it",
                    tellAndAsk.replace("FIRST", first).replace("SECOND", second));
            }
        }
        Script.shows("Whether a set (BITS) is a CUT (1, 0). BAD: others than PEOPLE, FROM or TO in it, below 0.", """
            people 6 | ask 2 4 0
            cut 0,1,2,8,32,43 -> 1
            cut 4,16,20,47,59,63 -> BAD
            cut -1,-2,64,65,128,256,1073741824,MIN,MAX -> BAD
            people 2
            cut 0 -> 1
            cut 1,2,3,4,-1,MIN,MAX -> BAD
            meet 5 0 1 50
            cut 0 -> 0
            people 3
            cut 4,8,12 -> 1 BAD BAD""");
        Script.shows("POINTS: all PEOPLE each of whom is a CUT alone (BITS).", """
            people 2
            told 8 -> 0
            people 6
            told 8 -> 60
            meet 1 0 2 50 | meet 3 2 3 50 | meet 5 3 4 50 | meet 7 4 5 50 | meet 9 5 1 50
            told 8 -> 60
            meet 5 2 4 50
            told 8 -> 52
            meet 99 0 1 50
            told 8 -> 0
            drop 6 | ask 5 0 0 -> 0
            told 8 -> 30
            people 6 | meet 1 1 0 50 | meet 3 0 2 50 | meet 1 1 5 50 | meet 3 5 2 50
            ask 1 2 0 -> 2
            told 8 -> 0
            drop 2 -> 3
            told 8 -> 1
            drop 0 -> 2
            told 8 -> 57""");
        Script.shows("LEAST CUT: of all CUTS that of fewest PEOPLE, of several that of least BITS (0: there is no WAY; -5: there"
            + " is no CUT).", """
            told 9 -> 0
            people 2 | told 9 -> 0
            meet 0 0 1 50 | told 9 -> -5
            people 6
            meet 1 0 2 50 | meet 3 2 3 50 | meet 5 3 1 50
            told 9 -> 4
            meet 7 2 4 50 | meet 9 4 1 50
            told 9 -> 4
            meet 7 0 4 50
            told 9 -> 20
            meet 1 0 3 50
            told 9 -> 24
            meet 1 0 1 50
            told 9 -> -5""");
        // One PERSON is fewer than two of less BITS, two are fewer than three, also where 0 is one of them.
        Script.shows("of all CUTS that of fewest PEOPLE, of several that of least BITS", """
            people 5 | meet 1 0 1,2 50 | meet 3 3 1,2 50 | meet 5 3 4 50
            ask 0 4 0 -> 2
            cut 2,4,6,8 -> 0 0 1 1
            told 8,9 -> 8 8
            people 6 | meet 1 0 1,2,3 50 | meet 3 4 1,2 50 | meet 4 3 5 50 | meet 5 4 5 50
            ask 0 5 0 -> 3
            cut 8,14,16,24 -> 0 1 0 1
            told 8,9 -> 0 24
            people 6 | meet 1 4 1,2 50 | meet 3 0 1,2 50 | meet 5 0 5 50
            ask 4 5 0 -> 2
            cut 1,6 -> 1
            told 8,9 -> 1 1
            people 6 | meet 1 4 1,2,3 50 | meet 3 0 1,2 50 | meet 4 3 5 50 | meet 5 0 5 50
            ask 4 5 0 -> 3
            cut 1,8,9,14 -> 0 0 1 1
            told 8,9 -> 0 9
            people 6 | meet 1 4 0,1,2 50 | meet 3 3 1,2 50 | meet 3 0 5 50 | meet 5 3 5 50
            ask 4 5 0 -> 3
            cut 7,8,9 -> 1 0 1
            told 8,9 -> 0 9""");
        Script.shows("of fewest PEOPLE", """
            people 6 | meet 1 0 1,2,3,4 50 | meet 3 5 1,2,3,4 50
            ask 0 5 0 -> 4
            told 8 -> 0
            told 9 -> 30
            cut 14,22,26,28,30 -> 0 0 0 0 1
            drop 0
            told 9 -> 28""");
    }

    private static void told() {
        Script.shows("What 0 n, 1 MEETINGS that are there, 2 DELAY, 3 FROM, 4 TO, 5 START, 6 how many WAYS, 7 LATEST (-5), 8 POINTS,"
            + " 9 LEAST CUT (-5), 10 who has a REACH (BITS), 11 MEETINGS that came. NONE.", """
            told -1..12 -> NONE 3 0 1 0 1 0 0 -5 4 0 1 0 NONE
            people 6 | delay 9 | meet 0..13 4 5 50 | drop 0,1 | ask 5 4 2
            told -1..12 -> NONE 6 12 9 5 4 2 12 13 0 -5 48 14 NONE
            ask 4 5 99
            told -1..12 -> NONE 6 12 9 4 5 99 0 13 15 0 16 14 NONE""");
        Script.shows("10 who has a REACH (BITS), 11 MEETINGS that came.", """
            told -1,12,13,MIN,MAX -> NONE
            people 6
            told 10 -> 1
            meet 99 0 1,2,3,4,5 50
            told 10 -> 63
            told 11 -> 5
            drop 4,3
            told 10 -> 15
            told 11 -> 5 | told 1 -> 3
            meet 99 5 4 50
            told 10 -> 15
            ask 5 4 99 | told 10 -> 48""");
    }
}
