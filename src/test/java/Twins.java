import java.util.ArrayList;
import java.util.List;

/**
 * Two objects that were told the same. One of them is called once more; where that changes nothing,
 * both must answer alike whatever is asked then, behind what is brought up from THE TEXT and THE IMAGE, too.
 */
final class Twins {
    static final String NEW = "";

    static final String USUAL = """
        people 4 | meet 1 0 2 90 | image
        meet 3 0 1 40 | meet 5 1 3 50 | meet 9 0 3 30 | meet 4 2 0 100 | meet 6 3 2 96 | drop 0 | drop 2
        delay 2 | ask 0 3 1
        see 2 4 true | see 3 5 false | event 1 1 | event 3 2 | book 0 1 | book 2 5
        tape 0 0 4 | item 0 0 4 | item 0 1 5 | tape 1 1 3 | item 1 0 700 | tape 2 2 2 | tape 3 3 2 | tape 4 4 2
        text delay 7
        """;

    static final String FULL = """
        people 6 | delay 0
        meet 5 0 1,2 50 | meet 6 1 2,3 60 | meet 7 2 3,4 70 | meet 8 3 4,5 80 | meet 9 4 5,0 90 | meet 4 5 0,1,2,3 10
        drop 13 | ask 0 5 3 | image | drop 12
        see 1 0,1,2,3,4 false | see 5 99 true
        event 1 1,2,3,4,5,6,7 | event 0 7
        book 0 3,3,3,3,3,3,3 | book 1 6
        tape 0..5 0 60 | item 0..5 59 5 | item 0 0 1
        text meet 55 0 1 100;meet 55 0 1 100;meet 55 0 1 100;meet 55 0 1 100;meet 55 0 1 100;meet 5 0 1 99;drop 3
        """;

    static final String TO_ITSELF = """
        people 2 | meet 9 0 1 50 | ask 1 1 4 | tape 0 0 0 | tape 1 2 0
        """;

    /** What is asked of both: as long as it may be, so that nothing that has changed stays unseen. */
    private static final String[] VIEW = {
        "told 0..11", "count 0..3", "meeting 0..13 0..3", "reach 0..5", "by 0..5", "rank 0..5", "agenda 0..13",
        "way 0..2 -2..4", "holder 0..2 0..4", "sureness 0..2 0,1", "fits 0,1", "odds 0,1", "mean 0,1", "after 0..2", "looked",
        "judge 0..5 0", "peek 0..5 0,1,59",
    };
    private static final String[] BEHIND_THE_TEXT = {"read", "count 3", "told 0,1,2,3,4,5,11", "meeting 0,13 0"};
    private static final String[] BEHIND_THE_IMAGE = {
        "undo", "told 0,1,2,3,4,5,11", "count 0..2", "meeting 0..13 0", "fits 0", "looked", "after 0",
    };

    private Twins() {
    }

    /** The call, which answers so, changes nothing in an object that was told all that. */
    static void unchanged(String told, String call, String due) {
        Script called = new Script().tell(told);
        called.tell(call + " -> " + due);
        compare(call, called, new Script().tell(told));
    }

    /** The call, whatever it answers, changes nothing: it also answers the same again. */
    static void unchanged(String told, String call) {
        Script called = new Script().tell(told);
        Script other = new Script().tell(told);
        long first = called.call(call);
        Check.due(call + ", again", called.call(call), first);
        Check.due(call + ", of the other", other.call(call), first);
        compare(call, called, other);
    }

    static void compare(String call, Script called, Script other) {
        List<String> all = new ArrayList<>();
        for (String[] part : new String[][] {VIEW, BEHIND_THE_TEXT, BEHIND_THE_IMAGE}) {
            for (String calls : part) {
                all.addAll(Script.spread(calls));
            }
        }
        for (String asked : all) {
            Check.due("behind " + call + ": " + asked, called.call(asked), other.call(asked));
        }
    }
}
