/** Boundaries of SEEN, FITS, ODDS, MEAN, EVENTS and the BOOK (Terms, section 2; promises 21 to 28), sentence by sentence. */
public final class BoundsSeenEventsTest {
    public static void main(String[] args) {
        see();
        seenIsReached();
        fits();
        odds();
        mean();
        event();
        after();
        book();
        looked();
        Check.end();
    }

    private static void see() {
        Script.shows("What is SEEN comes: how many there are (person -1: none then, 0, whatever the rest is). NONE: person; BAD:"
            + " time; FULL: 6.", """
            see -1 0,-1,100,MIN,MAX true,false -> 0
            see 3,-2,MIN,MAX 0 true -> NONE
            see 3,-2 -1,100 false -> NONE
            see 0 -1,100,MIN,MAX true -> BAD
            count 0 -> 0
            see 0 0 true -> 1 | see 2 99 false -> 2
            see 1 5 true,false,true -> 3 4 5
            see 1 100 true -> BAD
            count 0 -> 5
            see 1 5 true -> 6
            see 1 5 true,false -> FULL
            see 3 100 true -> NONE
            see 3 5 true -> NONE
            see 1 -1,100 true -> BAD
            count 0 -> 6
            see -1 100 false -> 0
            count 0 -> 0
            see -1 0 true -> 0
            see 1 5 true -> 1
            people 2
            see 2 5 true -> NONE
            see 1 5 true -> 1
            people 6
            see 5 5 true -> 1
            see 6 5 true -> NONE""");
    }

    private static void seenIsReached() {
        Script.shows("SEEN told by hand: a PERSON, a TIME, whether it is REACHED by then (REACH is TIME or less; 6 rows at most)", """
            meet 30 0 1 50
            see 1 30 true
            fits 0,1 -> 21 0
            see 1 29 false
            fits 0,1 -> 21 0
            see 1 31 true | see 1 99 true | see 1 0 false
            fits 0,1 -> 21 0
            see 1 29 true
            fits 0,1 -> 0 -5
            see -1 0 true
            see 1 30 false
            fits 0,1 -> 0 -5
            see -1 0 true
            see 2 0,99 false
            fits 0,1 -> 21 0
            see 2 99 true
            fits 0,1 -> 0 -5
            see -1 0 true
            renew 0 0 0 | see 1 0 true
            fits 0,1 -> 1 0""");
        // Each of six rows matters, the last as well.
        Script.shows("FITS: how many STARTS 0 .. 20 there are by which all of SEEN would be so", """
            see 0 20,19,18,17,16,9 true
            fits 0,1 -> 10 0
            see -1 0 true
            see 0 9,16,17,18,19,20 true
            fits 0,1 -> 10 0
            see -1 0 true
            see 0 0,1,2,3,4,5 false
            fits 0,1 -> 15 6""");
    }

    private static void fits() {
        Script.shows("STARTS 0 .. 20 there are by which all of SEEN would be so; the least (-5: none)", """
            fits 0,1 -> 21 0
            see 0 20 true | fits 0,1 -> 21 0
            see 0 19 false | fits 0,1 -> 1 20
            see 0 20 false | fits 0,1 -> 0 -5
            see -1 0 true | see 0 0 true
            fits 0,1 -> 1 0
            see 0 0 false | fits 0,1 -> 0 -5
            see -1 0 true | see 0 0 false
            fits 0,1 -> 20 1
            see 0 99 true | fits 0,1 -> 20 1
            ask 0 1 99
            fits 0,1 -> 20 1
            told 5 -> 99""");
        Script.shows("FITS: what 0 how many, 1 the least; -5. NONE.", """
            fits -1,2,MIN,MAX -> NONE
            see 0 20 false
            fits -1,2 -> NONE
            fits 0,1 -> 0 -5""");
    }

    private static void odds() {
        Script.shows("ODDS: one of MEETINGS that are there is missed, each alike likely: how likely there is a WAY still: a fraction"
            + " in lowest terms (NO: no MEETINGS are there).", """
            odds 0,1 -> NO
            meet 5 0 1 50
            odds 0,1 -> 0 1
            meet 99 0 1 50
            odds 0,1 -> 1
            drop 0
            odds 0,1 -> 0 1
            ask 1 1 0
            odds 0,1 -> 1
            drop 1
            odds 0,1 -> NO
            ask 0 1 0
            odds 0,1 -> NO
            meet 5 0 1 50 | meet 1..11 1 2 50
            odds 0,1 -> 11 12
            drop 3
            odds 0,1 -> 10 11
            told 1 -> 11
            ask 0 1 6 -> 0
            odds 0,1 -> 0 1""");
        Script.shows("ODDS; part 0 above, 1 below the line. NO: part.", """
            odds -1..2 -> NO
            meet 5 0 1 50 | meet 5 1 2 50
            odds -1,2,MIN,MAX -> NO
            odds 0,1 -> 1 2""");
        // The WAYS that are there still begin at START or later.
        Script.shows("how likely there is a WAY still", """
            meet 5 0 1 50 | meet 9 0 1 50 | meet 9 1 2 50
            ask 0 1 8 -> 1
            odds 0,1 -> 2 3
            ask 0 1 5 -> 2
            odds 0,1 -> 1
            ask 0 2 5 -> 1
            odds 0,1 -> 1 3
            ask 0 2 8 -> 0
            odds 0,1 -> 0 1
            delay 0
            odds 0,1 -> 1 3
            ask 1 0 8 -> 1
            odds 0,1 -> 2 3""");
        Script.shows("in lowest terms (NO: no MEETINGS are there)", """
            people 6 | delay 0
            meet 9 0 1 50 | meet 9 1 2 50 | meet 1..12 3 4 50
            ask 0 2 0 -> 1
            odds 0,1 -> 6 7
            people 2 | meet 0..13 0 1 50
            odds 0,1 -> 1""");
    }

    private static void mean() {
        Script.shows("MEAN: REACH of all who have one (FROM, too), together, by how many they are: a fraction in lowest terms.", """
            mean 0,1 -> 0 1
            ask 0 1 99
            mean 0,1 -> 99 1
            delay 0 | people 6
            meet 99 0 1,2,3,4,5 50
            mean 0,1 -> 165 2
            ask 0 1 99
            mean 0,1 -> 99 1
            ask 0 1 98
            mean 0,1 -> 593 6
            drop 0
            mean 0,1 -> 494 5
            ask 0 1 0
            mean 0,1 -> 396 5
            renew 1..4 0 0
            mean 0,1 -> 0 1""");
        Script.shows("MEAN; part likewise. NO.", """
            mean -1,2,MIN,MAX -> NO
            mean 0,1 -> 0 1
            meet 5 0 1 50
            mean -1,0,1,2 -> NO 5 2 NO""");
    }

    private static void event() {
        Script.shows("A row comes to EVENTS: how many there are (what -1: none then, 0, whatever the rest is). NONE: what (0 .. 3),"
            + " MEETING n (that came), PERSON n; BAD: DELAY, START n; FULL: 8.", """
            event -1 0,-1,100,MIN,MAX -> 0
            event 4,-2,MIN,MAX 0,-1,100 -> NONE
            event 0 0,-1,14,MIN,MAX -> NONE
            event 1 -1,10,MIN,MAX -> BAD
            event 2 -1,3,MIN,MAX -> NONE
            event 3 -1,100,MIN,MAX -> BAD
            count 1 -> 0
            meet 5 0 1 50 | meet 6 0 1 50 | drop 1
            event 0 2,-1 -> NONE
            event 0 0,1 -> 1 2
            event 1 0,9 -> 3 4
            event 2 0,2 -> 5 6
            event 3 0 -> 7
            event 4 0 -> NONE
            event 3 100 -> BAD
            count 1 -> 7
            event 3 99 -> 8
            event 0..3 0 -> FULL
            event 4,-2 0 -> NONE
            event 0 2,-1 -> NONE
            event 2 3,-1 -> NONE
            event 1 10,-1 -> BAD
            event 3 100,-1 -> BAD
            count 1 -> 8
            event -1 MAX -> 0
            count 1 -> 0
            event -1 0 -> 0
            event 3 5 -> 1
            meet 0..11 0 1 50
            event 0 13,14 -> 2 NONE
            people 6
            event 2 5,6 -> 1 NONE
            event 0 0 -> NONE
            people 2
            event 2 1,2 -> 1 NONE""");
    }

    private static void after() {
        Script.shows("EVENTS told by hand: what happens (0 MEETING n is DROPPED; 1 DELAY is n; 2 all MEETINGS of PERSON n are"
            + " DROPPED; 3 START is n; 8 rows at most)", """
            people 4 | meet 5 0 1 50 | meet 6 1 3 50 | meet 20 0 3 50
            ask 0 3 0 -> 2
            after 0..2 -> 6 1 2
            event 1 1 | event 1 2 | after 0..2 -> 20 1 1
            event 1 0 | after 0..2 -> 6 1 2
            event 3 5 | after 0..2 -> 6 1 2
            event 3 6 | after 0..2 -> 20 1 1
            event 3 20 | after 0..2 -> 20 1 1
            event 3 21 | after 0..2 -> -5 -5 0
            event 3 0 | after 0..2 -> 6 1 2
            event 0 2 -> FULL
            told 1,2,5,6 -> 3 1 0 2""");
        // What happens is that alone: neither DELAY nor START goes with a MEETING, nor any of them with another.
        Script.shows("what happens (0 MEETING n is DROPPED; 1 DELAY is n; 2 all MEETINGS of PERSON n are DROPPED; 3 START is n;", """
            people 6 | meet 5 4 5 50 | meet 5 4 5 50 | meet 5 0 1 50 | meet 6 1 2 50 | meet 5 3 4 50 | meet 5 3 5 50
            ask 0 2 5 -> 1
            after 0..2 -> 6 2 1
            event 0 0 | after 0..2 -> 6 2 1
            event -1 0 | event 0 4 | after 0..2 -> 6 2 1
            event -1 0 | event 2 3 | after 0..2 -> 6 2 1
            event -1 0 | event 3 0 | after 0..2 -> 6 2 1
            event -1 0 | event 1 0 | after 0..2 -> 6 2 1
            event -1 0 | event 1 2 | after 0..2 -> -5 -5 0
            renew 3 0 7 | after 0..2 -> 7 2 1
            event 2 4 | event 0 1 | after 0..2 -> 7 2 1
            event 3 2 | after 0..2 -> 7 2 1
            event 3 6 | after 0..2 -> -5 -5 0""");
        // The eighth row matters as the first does.
        Script.shows("8 rows at most): AFTER, behind all of it", """
            meet 5 0 1 50
            event 1 1 | event 1 1 | event 1 1 | event 1 1 | event 1 1 | event 1 1 | event 1 1
            after 0..2 -> 5 1 1
            event 0 0 -> 8
            after 0..2 -> -5 -5 0
            event -1 0
            event 0 0 | event 1 1
            after 0..2 -> -5 -5 0""");
        Script.shows("REACH of TO; HANDS by FEW (-5: no WAY); how many WAYS", """
            after 0..2 -> -5 -5 0
            ask 1 1 0
            after 0..2 -> 0 0 1
            event 3 99 | event 2 1
            after 0..2 -> 99 0 1
            ask 0 1 0
            after 0..2 -> -5 -5 0""");
        Script.shows("AFTER: what 0 REACH of TO, 1 HANDS, 2 WAYS. NONE.", """
            after -1,3,MIN,MAX -> NONE
            meet 5 0 1 50 | event 1 1
            after -1,3,MIN,MAX -> NONE
            after 0..2 -> 5 1 1""");
        Script.shows("0 MEETING n is DROPPED", """
            meet 5 0 1 50 | meet 7 0 1 50 | drop 0
            event 0 0
            after 0..2 -> 7 1 1
            event 0 1,1
            after 0..2 -> -5 -5 0
            told 1 -> 1
            drop 1 -> 0
            after 0..2 -> -5 -5 0
            meet 9 0 1 50
            after 0..2 -> 9 1 1""");
        Script.shows("2 all MEETINGS of PERSON n are DROPPED", """
            people 6
            meet 5 5 4 50 | meet 6 3 5 50 | meet 7 3 4 50
            ask 3 4 0 -> 1
            event 2 5
            after 0..2 -> 7 1 1
            event 2 0
            after 0..2 -> 7 1 1
            event 2 4
            after 0..2 -> -5 -5 0
            told 1 -> 3""");
        // The first and the last of all fourteen are of PERSON 2, and so are none of the others.
        Script.shows("2 all MEETINGS of PERSON n are DROPPED", """
            meet 0 0 2 50 | meet 1..12 0 1 50 | meet 99 1 2 50
            ask 0 2 0 -> 13
            after 0..2 -> 0 1 13
            event 2 2
            after 0..2 -> -5 -5 0
            ask 0 1 0 -> 13
            after 0..2 -> 1 1 12
            told 1 -> 14""");
    }

    private static void book() {
        Script.shows("A row comes to the BOOK: how many there are (person -1: it is empty then, 0, whatever the rest is). NONE:"
            + " person; BAD: time; FULL: 8.", """
            book -1 0,-1,100,MIN,MAX -> 0
            book 3,-2,MIN,MAX 0 -> NONE
            book 3,-2 -1,100 -> NONE
            book 0 -1,100,MIN,MAX -> BAD
            count 2 -> 0
            book 0 0,99 -> 1 2
            book 2 0,1,2,3,4 -> 3 4 5 6 7
            book 0 100 -> BAD
            count 2 -> 7
            book 1 5 -> 8
            book 1 5 -> FULL
            book 3 5,100 -> NONE
            book 1 -1,100 -> BAD
            count 2 -> 8
            book -1 MIN -> 0
            count 2 -> 0
            book -1 0 -> 0
            book 1 5 -> 1
            people 2
            book 2 5 -> NONE
            book 1 5 -> 1
            people 6
            book 5,6 5 -> 1 NONE""");
    }

    private static void looked() {
        Script.shows("A BOOK told by hand: PEOPLE, TIMES (8 rows at most): LOOKED at: the number (from 0) of the first of these rows that"
            + " isn't REACH (-5: none).", """
            looked -> -5
            meet 5 0 1 50
            book 1 5,5,5,5,5,5,5 | looked -> -5
            book 1 5 | looked -> -5
            count 2 -> 8
            renew 0 0 6 | looked -> 0
            book -1 0 | looked -> -5
            book 1 6,6,6,6,6,6,6 | book 1 7
            looked -> 7
            renew 0 0 7 | looked -> 0
            book -1 0
            book 0 0 | book 1 7 | book 1 6 | book 1 8
            looked -> 2
            book -1 0 | book 1 6 | looked -> 0
            book -1 0 | book 1 8 | looked -> 0
            book -1 0 | book 2 0 | looked -> 0
            book -1 0
            ask 0 1 99 | renew 0 0 99
            book 0,1 99 | looked -> -5
            ask 0 1 0 | looked -> 0""");
        Script.shows("LOOKED at; -5.", """
            looked -> -5
            book 0,0,0 0 | looked -> -5
            book 1 0 | looked -> 3
            people 3 | looked -> -5
            book 0 1 | looked -> 0
            book 0 0 | looked -> 0""");
    }
}
