/** Boundaries of PEOPLE, MEETINGS, DELAY and THE QUESTION (Terms, section 1; promises 1 to 8), sentence by sentence. */
public final class BoundsPeopleTest {
    public static void main(String[] args) {
        terms();
        newObject();
        people();
        meet();
        drop();
        renewAndMeeting();
        delayAndAsk();
        Check.end();
    }

    private static void terms() {
        Script.shows("PEOPLE 0 .. n - 1 (n 2 .. 6; 3 at first)", """
            told 0 -> 3
            reach 0,1,2,3 -> 0 -5 -5 NONE
            people 1,0,-1,-2,MIN,7,8,MAX -> BAD
            told 0 -> 3
            people 2 -> 3
            reach -1,0,1,2 -> NONE 0 -5 NONE
            people 6 -> 2
            reach -1,0,5,6,MIN,MAX -> NONE 0 -5 NONE NONE NONE
            people 3,4,5 -> 6 3 4
            told 0 -> 5""");
        Script.shows("MEETINGS 0 .. 13, as they come", """
            meeting -1,0 0 -> PLACE
            meet 10..23 0 1 50 -> 0 1 2 3 4 5 6 7 8 9 10 11 12 13
            meet 24 0 1 50 -> FULL
            meeting 0..13 0 -> 10 11 12 13 14 15 16 17 18 19 20 21 22 23
            meeting -1,14,15,MIN,MAX 0 -> PLACE
            told 11 -> 14
            between 0 1 -> 16383""");
        Script.shows("each at a TIME (0 .. 99)", """
            meet -1,100,MIN,MAX 0 1 50 -> BAD
            told 11 -> 0
            meet 0,99 0 1 50 -> 0 1
            meeting 0,1 0 -> 0 99
            renew 0 0 -1,100,MIN,MAX -> BAD
            meeting 0 0 -> 0
            renew 0 0 99 -> 0 | renew 0 0 0 -> 99""");
        Script.shows("of two PEOPLE (unlike)", """
            meet 5 0,1,2 0,1,2 50 -> NONE 0 1 2 NONE 3 4 5 NONE
            meet 5 -1,3,MIN,MAX 0 50 -> NONE
            meet 5 0 -1,3,MIN,MAX 50 -> NONE
            meet 5 3,-1 3 50 -> NONE
            told 11 -> 6
            meeting 0..5 1 -> 0 0 1 1 2 2
            meeting 0..5 2 -> 1 2 0 2 0 1
            people 2
            meet 5 0 2 50 -> NONE
            meet 5 1 0 50 -> 0
            people 6
            meet 5 5 4 50 -> 0
            meet 5 6 4 50 -> NONE""");
        Script.shows("SURE (1 .. 100 of a hundred)", """
            meet 5 0 1 0,101,-1,MIN,MAX -> BAD
            told 11 -> 0
            meet 5 0 1 1,100 -> 0 1
            meeting 0,1 3 -> 1 100
            renew 0 1 0,101,-1,MIN,MAX -> BAD
            meeting 0 3 -> 1
            renew 0 1 100 -> 1 | renew 0 1 1 -> 100""");
        Script.shows("one may be DROPPED (it is there no more; its number isn't given again)", """
            meet 5 0 1 50 | meet 6 0 1 50
            drop 1 -> 1
            meeting 1 0..3 -> NOTHING
            told 1 -> 1 | told 11 -> 2 | told 6 -> 1
            agenda 0,1 -> 0 -5
            between 0 1 -> 1
            meet 7 0 1 50 -> 2
            drop 0,2 -> 1 0
            told 6 -> 0
            meet 8 0 1 50 -> 3
            told 1 -> 1""");
        Script.shows("DELAY: 0 .. 9 (1 at first)", """
            told 2 -> 1
            delay -1,10,MIN,MAX -> BAD
            told 2 -> 1
            delay 0 -> 1 | delay 9 -> 0
            told 2 -> 9""");
        Script.shows("THE QUESTION: FROM, TO (PEOPLE), START (0 .. 99; all 0 at first, TO 1)", """
            told 3,4,5 -> 0 1 0
            ask -1,3,MIN,MAX 1 0 -> NONE
            ask 0 -1,3,MIN,MAX 0 -> NONE
            ask 0 1 -1,100,MIN,MAX -> BAD
            told 3,4,5 -> 0 1 0
            ask 2 0 99 -> 0
            told 3,4,5 -> 2 0 99
            ask 0 2 0 -> 0
            told 3,4,5 -> 0 2 0""");
    }

    private static void newObject() {
        Script.shows("Three PEOPLE, no MEETINGS.", """
            told 0..11 -> 3 0 1 0 1 0 0 -5 4 0 1 0
            count 0..3 -> 0
            meeting 0 0 -> PLACE
            agenda 0 -> -5
            reach 0..3 -> 0 -5 -5 NONE
            fits 0,1 -> 21 0
            odds 0,1 -> NO
            mean 0,1 -> 0 1
            after 0..2 -> -5 -5 0
            looked -> -5
            peek 0..5 0 -> NO
            item 0..5 0 1 -> NOTHING
            undo -> STATE
            read -> -10""");
    }

    private static void people() {
        Script.shows("n becomes so (also if it stays): no MEETINGS; FROM, START are 0, TO 1; SEEN, EVENTS, the BOOK are empty;"
            + " DELAY stays: what n was. BAD.", """
            meet 5 0 1 50 | meet 6 1 2 50 | drop 0 | delay 4 | ask 2 0 7
            see 1 5 true | event 1 2 | event 0 1 | book 2 7
            count 0..2 -> 1 2 1
            people 7 -> BAD | people 1 -> BAD
            told 0..5 -> 3 1 4 2 0 7
            count 0..2 -> 1 2 1
            people 3 -> 3
            told 0..11 -> 3 0 4 0 1 0 0 -5 4 0 1 0
            count 0..2 -> 0
            meeting 0,1 0 -> PLACE
            after 0..2 -> -5 -5 0
            event 0 0 -> NONE
            meet 8 0 1 50 -> 0
            meeting 0 0 -> 8""");
        // Fifteen come in all, but "n becomes so: no MEETINGS": the fourteen of before are none any more.
        Script.shows("FULL: 14 came.", """
            meet 0..13 0 1 50
            meet 14 0 1 50 -> FULL
            people 3
            told 11 -> 0
            meet 14 0 1 50 -> 0""");
        Script.shows("no MEETINGS; FROM, START are 0, TO 1", """
            people 6 | meet 5 4 5 50 | ask 5 4 5 -> 1
            people 2 -> 6
            told 3,4,5 -> 0 1 0
            told 8,9 -> 0 0
            reach 0,1,2 -> 0 -5 NONE""");
    }

    private static void meet() {
        Script.shows("A MEETING comes: its number. NONE: i, j, one twice; BAD: time, sure; FULL: 14 came.", """
            meet 100 0 0 50 -> NONE
            meet 5 3 0 101 -> NONE
            meet 5 0 3 0 -> NONE
            meet -1 1 1 0 -> NONE
            meet 100 0 1 50 -> BAD
            meet 5 0 1 0 -> BAD
            meet 0..13 0 1 50
            meet 5 1 1 50 -> NONE
            meet 5 0 3 50 -> NONE
            meet 5 -1 0 50 -> NONE
            meet 100 2 2 0 -> NONE
            meet -1 0 1 50 -> BAD
            meet 5 0 1 101 -> BAD
            meet 5 0 1 50 -> FULL
            drop 13 -> 13
            meet 5 0 1 50 -> FULL
            drop 0..12 -> 12 11 10 9 8 7 6 5 4 3 2 1 0
            meet 5 0 1 50 -> FULL
            told 1 -> 0 | told 11 -> 14""");
    }

    private static void drop() {
        Script.shows("A MEETING is DROPPED: how many there are left. PLACE: none such came; NOTHING: it is DROPPED.", """
            drop 0,-1,13,14,MIN,MAX -> PLACE
            meet 5 0 1 50
            drop 1,-1 -> PLACE
            drop 0 -> 0
            drop 0 -> NOTHING
            drop 1 -> PLACE
            meet 1..13 0 1 50
            drop 14,-1,MIN,MAX -> PLACE
            drop 13 -> 12
            drop 13 -> NOTHING
            told 1 -> 12
            drop 1 -> 11""");
    }

    private static void renewAndMeeting() {
        Script.shows("Of a MEETING TIME (what 0), SURE (1) becomes v: what it was. NONE: what; PLACE; NOTHING; BAD.", """
            meet 5 0 1 50 | meet 6 0 1 60 | drop 1
            renew 0 -1,2,MIN,MAX 7 -> NONE
            renew 1,2,-1 2 7 -> NONE
            renew 1,2,-1 -1 -1 -> NONE
            renew 0 2,-1 100,-1 -> NONE
            renew -1,2,14,MIN,MAX 0,1 7 -> PLACE
            renew 2,-1 0,1 101 -> PLACE
            renew 1 0,1 7 -> NOTHING
            renew 1 0,1 -1 -> NOTHING
            renew 0 0 -1,100 -> BAD
            renew 0 1 0,101 -> BAD
            meeting 0 0..3 -> 5 0 1 50
            renew 0 0 99,0,7 -> 5 99 0
            renew 0 1 1,100,7 -> 50 1 100
            meeting 0 0..3 -> 7 0 1 7""");
        Script.shows("Of a MEETING what 0 TIME, 1 the first, 2 the second PERSON (as they were told), 3 SURE. NONE: what; PLACE: none"
            + " such came; NOTHING: it is DROPPED.", """
            meeting 0 0 -> PLACE
            meet 5 2 1 50 | meet 6 1 2 60 | drop 1
            meeting 0 -1,4,MIN,MAX -> NONE
            meeting 1,2,-1 -1,4 -> NONE
            meeting -1,2,14,MIN,MAX 0..3 -> PLACE
            meeting 1 0..3 -> NOTHING
            meeting 0 0..3 -> 5 2 1 50
            meet 99 0 2 100 | meet 0 2 0 1
            meeting 2 0..3 -> 99 0 2 100
            meeting 3 0..3 -> 0 2 0 1""");
    }

    private static void delayAndAsk() {
        Script.shows("DELAY becomes d: what it was. BAD.", """
            delay -1,10,MIN,MAX -> BAD
            delay 1,0,9,9,4 -> 1 1 0 9 9
            delay 10 -> BAD
            told 2 -> 4""");
        Script.shows("THE QUESTION becomes so: how many WAYS there are. NONE: from, to; BAD: start.", """
            meet 5 0 1 50
            ask 0 1 0 -> 1
            ask 3,-1,MIN,MAX 1 100 -> NONE
            ask 0 3,-1,MIN,MAX -1 -> NONE
            ask 3 -1 0 -> NONE
            ask 0 1 100,-1,MIN,MAX -> BAD
            told 3,4,5,6 -> 0 1 0 1
            ask 2 2 99 -> 1
            ask 2 0 0 -> 0
            ask 1 0 5,6 -> 1 0
            told 3,4,5,6 -> 1 0 6 0""");
    }
}
