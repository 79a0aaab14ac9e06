import java.util.Arrays;

/**
 * People who meet at times, and what is handed on as they meet.
 * What each call answers is told in ../shared/DOC.md by its numbered promises.
 *
 * All rows are made when an object is made; no call makes anything.
 */
public final class HandRelay {
    public static final int NONE = -1, BAD = -2, STATE = -3, FULL = -4;
    public static final long NO = Long.MIN_VALUE;

    private static final int NONE_SUCH = -5;
    private static final int NOTHING = -11, CAST = -12, PLACE = -13, SIZE = -14;
    private static final int FINE = 0;

    private static final int MOST_PEOPLE = 6, MOST_MEETINGS = 14, MOST_HANDS = 5;
    private static final int LAST_TIME = 99, LAST_DELAY = 9, HUNDRED = 100;
    private static final int MOST_SEEN = 6, MOST_EVENTS = 8, MOST_BOOKED = 8;
    private static final int LAST_FITTING_START = 20;
    private static final int EARLY = 0, FEW = 1, SUREST = 2;
    private static final int EVENT_DROP = 0, EVENT_DELAY = 1, EVENT_LEAVE = 2, EVENT_START = 3;
    private static final int FAULT_IS = -10;
    private static final int NO_MEETING = -1, NOBODY = -1;

    private final Setup now;
    private final Setup kept;
    private final Setup later;
    private final Reaches reaches;
    private final Ways ways;
    private final Text text;
    private final Tapes tapes;
    private boolean isKept;

    public HandRelay() {
        now = new Setup();
        kept = new Setup();
        later = new Setup();
        reaches = new Reaches();
        ways = new Ways();
        text = new Text();
        tapes = new Tapes();
    }

    // ---- people, meetings

    public int people(int n) {
        if (n < 2 || n > MOST_PEOPLE) {
            return BAD;
        }
        int was = now.n;
        now.startAnew(n);
        return was;
    }

    public int meet(int time, int i, int j, int sure) {
        if (!now.isPair(i, j)) {
            return NONE;
        }
        if (!isTime(time) || !isSure(sure)) {
            return BAD;
        }
        return now.meetings.add(time, i, j, sure);
    }

    public int drop(int meeting) {
        int refusal = now.meetings.refusal(meeting);
        if (refusal != FINE) {
            return refusal;
        }
        now.meetings.remove(meeting);
        return now.meetings.left();
    }

    public int renew(int meeting, int what, int v) {
        if (what != Meetings.TIME && what != Meetings.SURE) {
            return NONE;
        }
        int refusal = now.meetings.refusal(meeting);
        if (refusal != FINE) {
            return refusal;
        }
        boolean isTold = what == Meetings.TIME ? isTime(v) : isSure(v);
        if (!isTold) {
            return BAD;
        }
        return now.meetings.change(meeting, what, v);
    }

    public int meeting(int meeting, int what) {
        if (what < 0 || what > 3) {
            return NONE;
        }
        int refusal = now.meetings.refusal(meeting);
        if (refusal != FINE) {
            return refusal;
        }
        switch (what) {
            case 0:
                return now.meetings.time[meeting];
            case 1:
                return now.meetings.first[meeting];
            case 2:
                return now.meetings.second[meeting];
            default:
                return now.meetings.sure[meeting];
        }
    }

    public int delay(int d) {
        if (!isDelay(d)) {
            return BAD;
        }
        int was = now.delay;
        now.delay = d;
        return was;
    }

    public int ask(int from, int to, int start) {
        if (!now.isPerson(from) || !now.isPerson(to)) {
            return NONE;
        }
        if (!isTime(start)) {
            return BAD;
        }
        now.from = from;
        now.to = to;
        now.start = start;
        ways.search(now, EARLY);
        return ways.count;
    }

    public int feed(int sign) {
        if (sign < 0 || sign > 127) {
            return BAD;
        }
        return text.add(sign);
    }

    public int read() {
        int fault = text.parse();
        text.empty();
        if (fault != Text.NO_FAULT) {
            return FAULT_IS - fault;
        }
        int done = 0;
        for (int c = 0; c < text.clauses; c++) {
            if (obey(c) >= 0) {
                done++;
            }
        }
        return done;
    }

    // ---- ways

    public int way(int rule, int k) {
        if (!isRule(rule)) {
            return BAD;
        }
        ways.search(now, rule);
        if (ways.hands < 0) {
            return NONE_SUCH;
        }
        if (k == -1) {
            return ways.hands;
        }
        if (k == -2) {
            return ways.arrival;
        }
        return k < 0 || k >= ways.hands ? NONE : ways.meetings[k];
    }

    public int holder(int rule, int k) {
        if (!isRule(rule)) {
            return BAD;
        }
        ways.search(now, rule);
        if (ways.hands < 0) {
            return NONE_SUCH;
        }
        return k < 0 || k > ways.hands ? NONE : ways.holders[k];
    }

    public long sureness(int rule, int part) {
        if (!isRule(rule) || !isPart(part)) {
            return NO;
        }
        ways.search(now, rule);
        if (ways.hands < 0) {
            return NO;
        }
        return lowest(ways.sureness, Ways.CERTAIN, part);
    }

    public int reach(int person) {
        if (!now.isPerson(person)) {
            return NONE;
        }
        reaches.fill(now, now.start);
        return reaches.of(person);
    }

    public int by(int k) {
        if (k < 0 || k > MOST_HANDS) {
            return BAD;
        }
        ways.search(now, EARLY);
        return ways.leastBy(k);
    }

    public int agenda(int k) {
        if (k < 0) {
            return NONE;
        }
        for (int m = 0; m < now.meetings.came; m++) {
            if (now.meetings.isThere(m) && now.meetings.howManyAhead(m) == k) {
                return m;
            }
        }
        return NONE_SUCH;
    }

    public int rank(int k) {
        if (k < 0) {
            return NONE;
        }
        reaches.fill(now, now.start);
        for (int p = 0; p < now.n; p++) {
            if (reaches.of(p) >= 0 && reaches.howManyAhead(p) == k) {
                return p;
            }
        }
        return NONE_SUCH;
    }

    public int between(int i, int j) {
        if (!now.isPair(i, j)) {
            return NONE;
        }
        int bits = 0;
        for (int m = 0; m < now.meetings.came; m++) {
            if (now.meetings.isThere(m) && now.meetings.other(m, i) == j) {
                bits |= 1 << m;
            }
        }
        return bits;
    }

    public int told(int what) {
        switch (what) {
            case 0:
                return now.n;
            case 1:
                return now.meetings.left();
            case 2:
                return now.delay;
            case 3:
                return now.from;
            case 4:
                return now.to;
            case 5:
                return now.start;
            case 6:
                ways.search(now, EARLY);
                return ways.count;
            case 7:
                return latest();
            case 8:
                return points();
            case 9:
                return leastCut();
            case 10:
                return reached();
            case 11:
                return now.meetings.came;
            default:
                return NONE;
        }
    }

    public int cut(int bits) {
        if (!mayCut(bits)) {
            return BAD;
        }
        return cutsAll(bits) ? 1 : 0;
    }

    // ---- seen, odds

    public int see(int person, int time, boolean isReached) {
        if (person == -1) {
            return now.seen.clear();
        }
        int refusal = refusalOf(person, time);
        return refusal != FINE ? refusal : now.seen.add(person, time, isReached ? 1 : 0);
    }

    public int fits(int what) {
        if (what != 0 && what != 1) {
            return NONE;
        }
        int howMany = 0;
        int least = NONE_SUCH;
        for (int start = 0; start <= LAST_FITTING_START; start++) {
            if (isAsSeen(start)) {
                least = howMany == 0 ? start : least;
                howMany++;
            }
        }
        return what == 0 ? howMany : least;
    }

    public long odds(int part) {
        int there = now.meetings.left();
        if (!isPart(part) || there == 0) {
            return NO;
        }
        int still = 0;
        for (int m = 0; m < now.meetings.came; m++) {
            if (now.meetings.isThere(m)) {
                reaches.fillWithout(now, now.start, 0, m);
                still += reaches.of(now.to) >= 0 ? 1 : 0;
            }
        }
        return lowest(still, there, part);
    }

    public long mean(int part) {
        if (!isPart(part)) {
            return NO;
        }
        reaches.fill(now, now.start);
        int together = 0;
        int howMany = 0;
        for (int p = 0; p < now.n; p++) {
            if (reaches.of(p) >= 0) {
                together += reaches.of(p);
                howMany++;
            }
        }
        return lowest(together, howMany, part);
    }

    // ---- events, books

    public int event(int what, int n) {
        if (what == -1) {
            return now.events.clear();
        }
        int refusal = eventRefusal(what, n);
        return refusal != FINE ? refusal : now.events.add(what, n, 0);
    }

    public int after(int what) {
        if (what < 0 || what > 2) {
            return NONE;
        }
        later.become(now);
        for (int e = 0; e < now.events.count; e++) {
            later.undergo(now.events.key[e], now.events.value[e]);
        }
        if (what == 0) {
            reaches.fill(later, later.start);
            return reaches.of(later.to);
        }
        ways.search(later, FEW);
        return what == 1 ? ways.hands : ways.count;
    }

    public int book(int person, int time) {
        if (person == -1) {
            return now.book.clear();
        }
        int refusal = refusalOf(person, time);
        return refusal != FINE ? refusal : now.book.add(person, time, 0);
    }

    public int looked() {
        reaches.fill(now, now.start);
        for (int r = 0; r < now.book.count; r++) {
            if (reaches.of(now.book.key[r]) != now.book.value[r]) {
                return r;
            }
        }
        return NONE_SUCH;
    }

    // ---- judging, the image, tapes

    public int judge(int tape, int i) {
        if (!tapes.isTape(tape)) {
            return NONE;
        }
        if (tapes.holds(tape) && tapes.sort[tape] != Tapes.BYTES) {
            return CAST;
        }
        if (now.from == now.to) {
            return NONE_SUCH;
        }
        return i < 0 ? HUNDRED : judgeFrom(tape, i);
    }

    public int image() {
        kept.become(now);
        isKept = true;
        return now.meetings.left();
    }

    public int undo() {
        if (!isKept) {
            return STATE;
        }
        now.become(kept);
        return now.meetings.left();
    }

    public int count(int what) {
        switch (what) {
            case 0:
                return now.seen.count;
            case 1:
                return now.events.count;
            case 2:
                return now.book.count;
            case 3:
                return text.size;
            default:
                return BAD;
        }
    }

    public int tape(int tape, int sort, int n) {
        if (!tapes.isTape(tape)) {
            return NONE;
        }
        if (sort == Tapes.EMPTY) {
            return tapes.become(tape, sort, 0);
        }
        if (sort < Tapes.BYTES || sort > Tapes.BOOLEANS || n > Tapes.LONGEST) {
            return BAD;
        }
        return n < 0 ? SIZE : tapes.become(tape, sort, n);
    }

    public int item(int tape, int i, long v) {
        if (!tapes.isTape(tape)) {
            return NONE;
        }
        if (!tapes.holds(tape)) {
            return NOTHING;
        }
        return tapes.hasPlace(tape, i) ? tapes.put(tape, i, v) : PLACE;
    }

    public long peek(int tape, int i) {
        return tapes.hasPlace(tape, i) ? tapes.row[tape][i] : NO;
    }

    public int shift(int tape, int i, int other, int j, int n) {
        if (!tapes.isTape(tape) || !tapes.isTape(other)) {
            return NONE;
        }
        if (!tapes.holds(tape) || !tapes.holds(other)) {
            return NOTHING;
        }
        if (tapes.sort[tape] != tapes.sort[other]) {
            return CAST;
        }
        if (!tapes.hasRun(tape, i, n) || !tapes.hasRun(other, j, n)) {
            return PLACE;
        }
        System.arraycopy(tapes.row[tape], i, tapes.row[other], j, n);
        return n;
    }

    // ---- what the calls share

    private static boolean isTime(int time) {
        return time >= 0 && time <= LAST_TIME;
    }

    private static boolean isSure(int sure) {
        return sure >= 1 && sure <= HUNDRED;
    }

    private static boolean isDelay(int d) {
        return d >= 0 && d <= LAST_DELAY;
    }

    private static boolean isRule(int rule) {
        return rule >= EARLY && rule <= SUREST;
    }

    private static boolean isPart(int part) {
        return part == 0 || part == 1;
    }

    private static boolean hasBit(int bits, int b) {
        return (bits >> b & 1) != 0;
    }

    private static long lowest(long above, long below, int part) {
        long divisor = commonDivisor(above, below);
        return part == 0 ? above / divisor : below / divisor;
    }

    /** 1 at least, so that it may divide. */
    private static long commonDivisor(long a, long b) {
        long greater = a;
        long less = b;
        for (int i = 0; i < 1000 && less != 0; i++) {
            long rest = greater % less;
            greater = less;
            less = rest;
        }
        return Math.max(1, greater);
    }

    private int obey(int clause) {
        switch (text.word(clause)) {
            case Text.PEOPLE:
                return people(text.number(clause, 0));
            case Text.MEET:
                return meet(text.number(clause, 0), text.number(clause, 1),
                        text.number(clause, 2), text.number(clause, 3));
            case Text.DROP:
                return drop(text.number(clause, 0));
            case Text.DELAY:
                return delay(text.number(clause, 0));
            default:
                return ask(text.number(clause, 0), text.number(clause, 1), text.number(clause, 2));
        }
    }

    private int refusalOf(int person, int time) {
        if (!now.isPerson(person)) {
            return NONE;
        }
        return isTime(time) ? FINE : BAD;
    }

    private int eventRefusal(int what, int n) {
        switch (what) {
            case EVENT_DROP:
                return now.meetings.hasCome(n) ? FINE : NONE;
            case EVENT_DELAY:
                return isDelay(n) ? FINE : BAD;
            case EVENT_LEAVE:
                return now.isPerson(n) ? FINE : NONE;
            case EVENT_START:
                return isTime(n) ? FINE : BAD;
            default:
                return NONE;
        }
    }

    private int latest() {
        for (int start = LAST_TIME; start >= 0; start--) {
            reaches.fill(now, start);
            if (reaches.of(now.to) >= 0) {
                return start;
            }
        }
        return NONE_SUCH;
    }

    private int reached() {
        reaches.fill(now, now.start);
        int bits = 0;
        for (int p = 0; p < now.n; p++) {
            if (reaches.of(p) >= 0) {
                bits |= 1 << p;
            }
        }
        return bits;
    }

    private boolean mayCut(int bits) {
        return bits >= 0 && bits < 1 << now.n && !hasBit(bits, now.from) && !hasBit(bits, now.to);
    }

    private boolean cutsAll(int bits) {
        reaches.fillWithout(now, now.start, bits, NO_MEETING);
        return reaches.of(now.to) < 0;
    }

    private int points() {
        int bits = 0;
        for (int p = 0; p < now.n; p++) {
            if (mayCut(1 << p) && cutsAll(1 << p)) {
                bits |= 1 << p;
            }
        }
        return bits;
    }

    private int leastCut() {
        int least = NONE_SUCH;
        int fewest = MOST_PEOPLE + 1;
        for (int bits = 0; bits < 1 << now.n; bits++) {
            int size = Integer.bitCount(bits);
            if (size < fewest && mayCut(bits) && cutsAll(bits)) {
                least = bits;
                fewest = size;
            }
        }
        return least;
    }

    private boolean isAsSeen(int start) {
        reaches.fill(now, start);
        for (int r = 0; r < now.seen.count; r++) {
            int at = reaches.of(now.seen.key[r]);
            boolean isReached = at >= 0 && at <= now.seen.value[r];
            if (isReached != (now.seen.flag[r] == 1)) {
                return false;
            }
        }
        return true;
    }

    private int judgeFrom(int tape, int i) {
        int held = now.from;
        int ready = now.start;
        int had = 1 << held;
        int seen = 0;
        for (int place = i; place < tapes.size[tape]; place++) {
            int m = (int) tapes.row[tape][place];
            int taker = now.meetings.taker(m, held, ready, had);
            if (taker == NOBODY) {
                return seen;
            }
            if (taker == now.to) {
                return NONE_SUCH;
            }
            held = taker;
            ready = now.meetings.time[m] + now.delay;
            had |= 1 << taker;
            seen++;
        }
        return HUNDRED + seen;
    }

    /** MEETINGS by their numbers; a DROPPED one keeps its number, so that it isn't given again. */
    private static final class Meetings {
        static final int TIME = 0, SURE = 1;

        int came;
        final int[] time;
        final int[] first;
        final int[] second;
        final int[] sure;
        final boolean[] dropped;

        Meetings() {
            time = new int[MOST_MEETINGS];
            first = new int[MOST_MEETINGS];
            second = new int[MOST_MEETINGS];
            sure = new int[MOST_MEETINGS];
            dropped = new boolean[MOST_MEETINGS];
        }

        void become(Meetings other) {
            came = other.came;
            for (int m = 0; m < MOST_MEETINGS; m++) {
                time[m] = other.time[m];
                first[m] = other.first[m];
                second[m] = other.second[m];
                sure[m] = other.sure[m];
                dropped[m] = other.dropped[m];
            }
        }

        int add(int atTime, int i, int j, int howSure) {
            if (came >= MOST_MEETINGS) {
                return FULL;
            }
            time[came] = atTime;
            first[came] = i;
            second[came] = j;
            sure[came] = howSure;
            dropped[came] = false;
            came++;
            return came - 1;
        }

        boolean hasCome(int m) {
            return m >= 0 && m < came;
        }

        boolean isThere(int m) {
            return m >= 0 && m < came && !dropped[m];
        }

        int refusal(int m) {
            if (!hasCome(m)) {
                return PLACE;
            }
            return dropped[m] ? NOTHING : FINE;
        }

        void remove(int m) {
            if (hasCome(m)) {
                dropped[m] = true;
            }
        }

        void removeAllOf(int person) {
            for (int m = 0; m < came; m++) {
                if (first[m] == person || second[m] == person) {
                    dropped[m] = true;
                }
            }
        }

        int left() {
            int there = 0;
            for (int m = 0; m < came; m++) {
                there += dropped[m] ? 0 : 1;
            }
            return there;
        }

        int change(int m, int what, int v) {
            int[] row = what == TIME ? time : sure;
            int was = row[m];
            row[m] = v;
            return was;
        }

        /** Whom a PERSON meets there; NOBODY, if the MEETING isn't that PERSON's. */
        int other(int m, int person) {
            if (first[m] == person) {
                return second[m];
            }
            return second[m] == person ? first[m] : NOBODY;
        }

        /** Who HOLDS it behind a MEETING; NOBODY, if it can't go on by that MEETING. */
        int taker(int m, int held, int ready, int had) {
            if (!isThere(m) || time[m] < ready) {
                return NOBODY;
            }
            int taker = other(m, held);
            return taker == NOBODY || hasBit(had, taker) ? NOBODY : taker;
        }

        int howManyAhead(int m) {
            int ahead = 0;
            for (int o = 0; o < came; o++) {
                if (!dropped[o] && (time[o] < time[m] || time[o] == time[m] && o < m)) {
                    ahead++;
                }
            }
            return ahead;
        }
    }

    /** What is told by hand, row behind row: SEEN, EVENTS and the BOOK are alike in that. */
    private static final class Rows {
        int count;
        final int most;
        final int[] key;
        final int[] value;
        final int[] flag;

        Rows(int most) {
            this.most = most;
            key = new int[most];
            value = new int[most];
            flag = new int[most];
        }

        void become(Rows other) {
            count = other.count;
            for (int r = 0; r < count; r++) {
                key[r] = other.key[r];
                value[r] = other.value[r];
                flag[r] = other.flag[r];
            }
        }

        int clear() {
            count = 0;
            return count;
        }

        int add(int newKey, int newValue, int newFlag) {
            if (count >= most) {
                return FULL;
            }
            key[count] = newKey;
            value[count] = newValue;
            flag[count] = newFlag;
            count++;
            return count;
        }
    }

    /** All that THE IMAGE holds, and so all that EVENTS may change. */
    private static final class Setup {
        int n;
        int delay;
        int from;
        int to;
        int start;
        final Meetings meetings;
        final Rows seen;
        final Rows events;
        final Rows book;

        Setup() {
            n = 3;
            delay = 1;
            to = 1;
            meetings = new Meetings();
            seen = new Rows(MOST_SEEN);
            events = new Rows(MOST_EVENTS);
            book = new Rows(MOST_BOOKED);
        }

        void startAnew(int howManyPeople) {
            n = howManyPeople;
            from = 0;
            to = 1;
            start = 0;
            meetings.came = 0;
            seen.clear();
            events.clear();
            book.clear();
        }

        void become(Setup other) {
            n = other.n;
            delay = other.delay;
            from = other.from;
            to = other.to;
            start = other.start;
            meetings.become(other.meetings);
            seen.become(other.seen);
            events.become(other.events);
            book.become(other.book);
        }

        boolean isPerson(int p) {
            return p >= 0 && p < n;
        }

        boolean isPair(int i, int j) {
            return isPerson(i) && isPerson(j) && i != j;
        }

        void undergo(int what, int number) {
            switch (what) {
                case EVENT_DROP:
                    meetings.remove(number);
                    break;
                case EVENT_DELAY:
                    delay = number;
                    break;
                case EVENT_LEAVE:
                    meetings.removeAllOf(number);
                    break;
                default:
                    start = number;
                    break;
            }
        }
    }

    /**
     * The REACH of all PEOPLE. Who has it twice never has it earlier the second time, so that
     * the least ARRIVAL comes out right although nobody looks here who had it already.
     */
    private static final class Reaches {
        final int[] at;

        Reaches() {
            at = new int[MOST_PEOPLE];
        }

        int of(int person) {
            return person >= 0 && person < MOST_PEOPLE ? at[person] : NONE_SUCH;
        }

        void fill(Setup s, int start) {
            fillWithout(s, start, 0, NO_MEETING);
        }

        /** As if some PEOPLE (BITS) never took it, and one MEETING were missed. */
        void fillWithout(Setup s, int start, int absent, int missed) {
            Arrays.fill(at, NONE_SUCH);
            at[s.from] = start;
            boolean isChanged = true;
            for (int round = 0; round < MOST_PEOPLE && isChanged; round++) {
                isChanged = false;
                for (int m = 0; m < s.meetings.came; m++) {
                    if (m != missed && s.meetings.isThere(m) && handOn(s, m, absent)) {
                        isChanged = true;
                    }
                }
            }
        }

        private boolean handOn(Setup s, int m, int absent) {
            int one = s.meetings.first[m];
            int two = s.meetings.second[m];
            if (hasBit(absent, one) || hasBit(absent, two)) {
                return false;
            }
            int time = s.meetings.time[m];
            boolean isGiven = give(s, time, one, two);
            boolean isGivenBack = give(s, time, two, one);
            return isGiven || isGivenBack;
        }

        private boolean give(Setup s, int time, int giver, int taker) {
            if (at[giver] < 0 || at[taker] >= 0 && at[taker] <= time) {
                return false;
            }
            int ready = giver == s.from ? at[giver] : at[giver] + s.delay;
            if (time < ready) {
                return false;
            }
            at[taker] = time;
            return true;
        }

        int howManyAhead(int person) {
            int ahead = 0;
            for (int p = 0; p < MOST_PEOPLE; p++) {
                if (at[p] >= 0 && (at[p] < at[person] || at[p] == at[person] && p > person)) {
                    ahead++;
                }
            }
            return ahead;
        }
    }

    /**
     * All WAYS, one by one, and of them THE WAY by one RULE. MEETINGS are tried by their numbers,
     * so of WAYS alike by a RULE that with the least numbers comes first; it stays.
     */
    private static final class Ways {
        /** A hundred to the MOST_HANDS: SURENESS is told in parts of it, so that all WAYS compare. */
        static final long CERTAIN = 10_000_000_000L;

        int rule;
        int count;
        int hands;
        int arrival;
        long sureness;
        final int[] meetings;
        final int[] holders;
        final int[] byHands;
        private final int[] tried;
        private final int[] held;

        Ways() {
            meetings = new int[MOST_HANDS];
            holders = new int[MOST_HANDS + 1];
            byHands = new int[MOST_HANDS + 1];
            tried = new int[MOST_HANDS];
            held = new int[MOST_HANDS + 1];
        }

        void search(Setup s, int byRule) {
            rule = byRule;
            count = 0;
            hands = NONE_SUCH;
            Arrays.fill(byHands, NONE_SUCH);
            held[0] = s.from;
            goOn(this, s, 0, s.start, 1 << s.from, CERTAIN);
        }

        private static void goOn(Ways w, Setup s, int depth, int ready, int had, long sureSoFar) {
            if (w.held[depth] == s.to) {
                int arrived = depth == 0 ? s.start : s.meetings.time[w.tried[depth - 1]];
                w.take(depth, arrived, sureSoFar);
                return;
            }
            if (depth >= MOST_HANDS) {
                return;
            }
            for (int m = 0; m < s.meetings.came; m++) {
                int taker = s.meetings.taker(m, w.held[depth], ready, had);
                if (taker != NOBODY) {
                    w.tried[depth] = m;
                    w.held[depth + 1] = taker;
                    goOn(w, s, depth + 1, s.meetings.time[m] + s.delay, had | 1 << taker,
                            sureSoFar / HUNDRED * s.meetings.sure[m]);
                }
            }
        }

        private void take(int newHands, int newArrival, long newSureness) {
            count++;
            if (byHands[newHands] < 0 || newArrival < byHands[newHands]) {
                byHands[newHands] = newArrival;
            }
            if (hands >= 0 && !isBetter(newHands, newArrival, newSureness)) {
                return;
            }
            hands = newHands;
            arrival = newArrival;
            sureness = newSureness;
            System.arraycopy(tried, 0, meetings, 0, hands);
            System.arraycopy(held, 0, holders, 0, hands + 1);
        }

        private boolean isBetter(int newHands, int newArrival, long newSureness) {
            if (rule == SUREST && newSureness != sureness) {
                return newSureness > sureness;
            }
            if (rule == FEW && newHands != hands) {
                return newHands < hands;
            }
            return newArrival != arrival ? newArrival < arrival : newHands < hands;
        }

        int leastBy(int mostHands) {
            int least = NONE_SUCH;
            for (int h = 0; h <= mostHands && h <= MOST_HANDS; h++) {
                if (byHands[h] >= 0 && (least < 0 || byHands[h] < least)) {
                    least = byHands[h];
                }
            }
            return least;
        }
    }

    /** THE TEXT, and the CLAUSES that were read from it last. */
    private static final class Text {
        static final int PEOPLE = 0, MEET = 1, DROP = 2, DELAY = 3, ASK = 4;
        static final int NO_FAULT = -1;
        private static final int LONGEST = 100, MOST_CLAUSES = 12, MOST_NUMBERS = 4;
        private static final int WORDS = 5, NO_WORD = -1, END = -1;

        int size;
        int clauses;
        private final int[] signs;
        private final int[] words;
        private final int[][] numbers;
        private int at;

        Text() {
            signs = new int[LONGEST];
            words = new int[MOST_CLAUSES];
            numbers = new int[MOST_CLAUSES][MOST_NUMBERS];
        }

        int add(int sign) {
            if (size >= LONGEST) {
                return FULL;
            }
            signs[size] = sign;
            size++;
            return size;
        }

        void empty() {
            size = 0;
        }

        int word(int clause) {
            return clause >= 0 && clause < clauses ? words[clause] : NO_WORD;
        }

        int number(int clause, int k) {
            boolean isOne = clause >= 0 && clause < clauses && k >= 0 && k < MOST_NUMBERS;
            return isOne ? numbers[clause][k] : NONE;
        }

        /** The FAULT, or NO_FAULT. */
        int parse() {
            at = 0;
            clauses = 0;
            for (int c = 0; c < MOST_CLAUSES; c++) {
                if (!takeClause(c)) {
                    return at;
                }
                if (sign(at) == END) {
                    clauses = c + 1;
                    return NO_FAULT;
                }
                boolean isLast = c == MOST_CLAUSES - 1;
                if (isLast || sign(at) != ';') {
                    return at;
                }
                at++;
            }
            return at;
        }

        /** Moves behind the CLAUSE, or to its FAULT. */
        private boolean takeClause(int c) {
            int word = wordHere();
            if (word == NO_WORD) {
                return false;
            }
            at += spelling(word).length();
            words[c] = word;
            String widths = widths(word);
            for (int k = 0; k < widths.length() && k < MOST_NUMBERS; k++) {
                if (sign(at) != ' ') {
                    return false;
                }
                at++;
                if (!isDigit(sign(at))) {
                    return false;
                }
                numbers[c][k] = takeNumber(widths.charAt(k) - '0');
            }
            return true;
        }

        private int takeNumber(int mostDigits) {
            int value = 0;
            for (int d = 0; d < mostDigits && isDigit(sign(at)); d++) {
                value = value * 10 + sign(at) - '0';
                at++;
            }
            return value;
        }

        private int wordHere() {
            int end = at;
            while (end < size && isLetter(sign(end))) {
                end++;
            }
            for (int word = 0; word < WORDS; word++) {
                if (isSpelt(spelling(word), end - at)) {
                    return word;
                }
            }
            return NO_WORD;
        }

        private boolean isSpelt(String word, int letters) {
            if (word.length() != letters) {
                return false;
            }
            for (int k = 0; k < letters; k++) {
                if (sign(at + k) != word.charAt(k)) {
                    return false;
                }
            }
            return true;
        }

        private int sign(int place) {
            return place >= 0 && place < size ? signs[place] : END;
        }

        private static boolean isDigit(int sign) {
            return sign >= '0' && sign <= '9';
        }

        private static boolean isLetter(int sign) {
            return sign >= 'a' && sign <= 'z';
        }

        private static String spelling(int word) {
            switch (word) {
                case PEOPLE:
                    return "people";
                case MEET:
                    return "meet";
                case DROP:
                    return "drop";
                case DELAY:
                    return "delay";
                default:
                    return "ask";
            }
        }

        /** How many digits each number behind a WORD may have. */
        private static String widths(int word) {
            switch (word) {
                case MEET:
                    return "2113";
                case DROP:
                    return "2";
                case ASK:
                    return "112";
                default:
                    return "1";
            }
        }
    }

    /** TAPES of all sorts are rows of longs here; what is put is cut to what its sort can hold. */
    private static final class Tapes {
        static final int EMPTY = -1, BYTES = 0, SHORTS = 1, INTS = 2, LONGS = 3, BOOLEANS = 4;
        static final int LONGEST = 60;
        private static final int TAPES = 6;

        final int[] sort;
        final int[] size;
        final long[][] row;

        Tapes() {
            sort = new int[TAPES];
            Arrays.fill(sort, EMPTY);
            size = new int[TAPES];
            row = new long[TAPES][LONGEST];
        }

        boolean isTape(int tape) {
            return tape >= 0 && tape < TAPES;
        }

        boolean holds(int tape) {
            return isTape(tape) && sort[tape] != EMPTY;
        }

        boolean hasPlace(int tape, int i) {
            return holds(tape) && i >= 0 && i < size[tape];
        }

        boolean hasRun(int tape, int i, int n) {
            return n >= 0 && i >= 0 && (long) i + n <= size[tape];
        }

        int become(int tape, int newSort, int newSize) {
            sort[tape] = newSort;
            size[tape] = newSize;
            Arrays.fill(row[tape], 0L);
            return 1;
        }

        int put(int tape, int i, long v) {
            row[tape][i] = cutTo(sort[tape], v);
            return 1;
        }

        private static long cutTo(int sort, long v) {
            switch (sort) {
                case BYTES:
                    return (byte) v;
                case SHORTS:
                    return (short) v;
                case INTS:
                    return (int) v;
                case BOOLEANS:
                    return v != 0 ? 1 : 0;
                default:
                    return v;
            }
        }
    }
}
