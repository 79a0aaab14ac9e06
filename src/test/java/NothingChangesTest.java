/** "What is answered so changes nothing; what is asked changes nothing.": each refusal of each call, and each question. */
public final class NothingChangesTest {
    private static final String[] ALL = {Twins.NEW, Twins.USUAL, Twins.FULL, Twins.TO_ITSELF};

    public static void main(String[] args) {
        Check.says("What is answered so changes nothing; what is asked changes nothing.");
        refusedWhateverIsThere();
        refusedByWhatIsThere();
        refusedByWhatIsFull();
        refusedTapes();
        readOfRefusedClauses();
        Check.says("All that follows is asked, and changes nothing.");
        asked();
        Check.end();
    }

    private static void refused(String[] told, String calls, String due) {
        for (String so : told) {
            for (String call : Script.spread(calls)) {
                Twins.unchanged(so, call, due);
            }
        }
    }

    private static void refusedWhateverIsThere() {
        refused(ALL, "people 1,7,MIN,MAX", "BAD");
        refused(ALL, "meet 5 1 1 50", "NONE");
        refused(ALL, "meet 5 -1,6 1 50", "NONE");
        refused(ALL, "meet 5 1 -1,6 50", "NONE");
        refused(ALL, "meet -1,100 0 1 50", "BAD");
        refused(ALL, "meet 5 0 1 0,101", "BAD");
        refused(ALL, "drop -1,14", "PLACE");
        refused(ALL, "renew 0 -1,2 7", "NONE");
        refused(ALL, "renew -1,14 0,1 7", "PLACE");
        refused(ALL, "meeting 0 -1,4", "NONE");
        refused(ALL, "meeting -1,14 0", "PLACE");
        refused(ALL, "delay -1,10", "BAD");
        refused(ALL, "ask -1,6 1 7", "NONE");
        refused(ALL, "ask 1 -1,6 7", "NONE");
        refused(ALL, "ask 1 0 -1,100", "BAD");
        refused(ALL, "feed -1,128", "BAD");
        refused(ALL, "way -1,3 0", "BAD");
        refused(ALL, "holder -1,3 0", "BAD");
        refused(ALL, "sureness -1,3 0", "NO");
        refused(ALL, "sureness 0 -1,2", "NO");
        refused(ALL, "reach -1,6", "NONE");
        refused(ALL, "by -1,6", "BAD");
        refused(ALL, "agenda,rank -1", "NONE");
        refused(ALL, "between -1,1,6 1", "NONE");
        refused(ALL, "told -1,12", "NONE");
        refused(ALL, "cut -1,64", "BAD");
        refused(ALL, "see -2,6 5 true", "NONE");
        refused(ALL, "see 1 -1,100 true", "BAD");
        refused(ALL, "fits -1,2", "NONE");
        refused(ALL, "odds,mean -1,2", "NO");
        refused(ALL, "event -2,4 0", "NONE");
        refused(ALL, "event 0 -1,14", "NONE");
        refused(ALL, "event 2 -1,6", "NONE");
        refused(ALL, "event 1 -1,10", "BAD");
        refused(ALL, "event 3 -1,100", "BAD");
        refused(ALL, "after -1,3", "NONE");
        refused(ALL, "book -2,6 5", "NONE");
        refused(ALL, "book 1 -1,100", "BAD");
        refused(ALL, "judge -1,6 0", "NONE");
        refused(ALL, "count -1,4", "BAD");
    }

    private static void refusedByWhatIsThere() {
        String[] usual = {Twins.USUAL};
        String[] none = {Twins.NEW};
        refused(usual, "meet 5 4 1 50", "NONE");
        refused(usual, "drop 0,2", "NOTHING");
        refused(usual, "drop 6", "PLACE");
        refused(usual, "renew 0,2 0,1 7", "NOTHING");
        refused(usual, "renew 6 0,1 7", "PLACE");
        refused(usual, "renew 1 0 -1,100", "BAD");
        refused(usual, "renew 1 1 0,101", "BAD");
        refused(usual, "meeting 0 0..3", "NOTHING");
        refused(usual, "ask 4 0 5", "NONE");
        refused(usual, "ask 0 4 5", "NONE");
        refused(usual, "way 0 -3,2", "NONE");
        refused(usual, "holder 0 -1,3", "NONE");
        refused(usual, "cut 1,8,16", "BAD");
        refused(usual, "see 4 5 true", "NONE");
        refused(usual, "event 0 6", "NONE");
        refused(usual, "event 2 4", "NONE");
        refused(usual, "book 4 5", "NONE");
        refused(usual, "judge 1..4 0", "CAST");
        refused(none, "undo", "STATE");
        refused(none, "drop 0", "PLACE");
        refused(none, "way,holder 0 0", "-5");
        refused(none, "sureness 0 0,1", "NO");
        refused(none, "odds 0,1", "NO");
    }

    private static void refusedByWhatIsFull() {
        String[] full = {Twins.FULL};
        refused(full, "meet 5 0 1 50", "FULL");
        refused(full, "feed 0,127", "FULL");
        refused(full, "see 0 5 true,false", "FULL");
        refused(full, "event 0 0", "FULL");
        refused(full, "event 1..3 1", "FULL");
        refused(full, "book 0 5", "FULL");
    }

    private static void refusedTapes() {
        refused(ALL, "tape -1,6 0 5", "NONE");
        refused(ALL, "tape 0 -2,5 5", "BAD");
        refused(ALL, "tape 0,5 0 61", "BAD");
        refused(ALL, "tape 0,5 0 -1", "SIZE");
        refused(ALL, "item -1,6 0 7", "NONE");
        refused(ALL, "peek -1,6 0", "NO");
        refused(ALL, "peek 0 -1,60", "NO");
        refused(ALL, "shift -1,6 0 0 0 1", "NONE");
        refused(ALL, "shift 0 0 -1,6 0 1", "NONE");
        String[] usual = {Twins.USUAL};
        refused(usual, "item 5 0 7", "NOTHING");
        refused(usual, "item 0 -1,4 7", "PLACE");
        refused(usual, "shift 5 0 0 0 1", "NOTHING");
        refused(usual, "shift 0 0 5 0 1", "NOTHING");
        refused(usual, "shift 0 0 1 0 1", "CAST");
        refused(usual, "shift 0 -1,4 0 1 1", "PLACE");
        refused(usual, "shift 0 1 0 -1,4 1", "PLACE");
        refused(usual, "shift 0 1 0 0 -1,4", "PLACE");
        refused(usual, "shift 0 0 0 1 4", "PLACE");
        String[] full = {Twins.FULL};
        refused(full, "item 0 -1,60 7", "PLACE");
        refused(full, "shift 0 0 1 1 60", "PLACE");
        refused(full, "shift 0 1 1 0 60", "PLACE");
        refused(new String[] {Twins.TO_ITSELF}, "item 0 0 7", "PLACE");
    }

    /** All that reading such a text may change is THE TEXT: the other one had none. */
    private static void readOfRefusedClauses() {
        String[] texts = {
            "", "x", "delay 7;", "people 5;meet 5 0 1 50;delay 7;drop 0;ask 1 1 1;delay", "delay 7;people 66",
            "people 1;people 7;meet 5 0 0 50;meet 5 0 9 50;meet 5 0 1 0;meet 5 0 1 101", "drop 99;ask 0 9 0;ask 9 0 0;people 0",
        };
        String[] due = {"-10", "-10", "-18", "-63", "-26", "0", "0"};
        for (int t = 0; t < texts.length; t++) {
            for (String told : new String[] {Twins.NEW, Twins.USUAL.replace("text delay 7\n", ""), Twins.TO_ITSELF}) {
                Script called = new Script().tell(told + "\ntext " + texts[t] + "\nread -> " + due[t]);
                Twins.compare("read \"" + texts[t] + "\"", called, new Script().tell(told));
            }
        }
    }

    private static void asked() {
        String[] questions = {
            "meeting 1 0..3", "way 0..2 -2..5", "holder 0..2 0..6", "sureness 0..2 0,1", "reach 0..5", "by 0..5",
            "agenda 0,5,14", "rank 0..6", "between 0 1", "told 0..11", "cut 0,1,2,4,20,30", "fits 0,1", "odds 0,1", "mean 0,1",
            "after 0..2", "looked", "judge 0..5 0", "judge 0 -1,1,60", "count 0..3", "peek 0..5 0,1,59",
        };
        for (String told : ALL) {
            for (String some : questions) {
                for (String call : Script.spread(some)) {
                    Twins.unchanged(told, call);
                }
            }
        }
    }
}
