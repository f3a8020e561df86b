import java.util.Arrays;

/**
 * An unfolder of nets: from places, transitions and a first marking it makes the beginning of the
 * net's unfolding, and answers on it which markings can be reached, each time with a way to play.
 *
 * <p>Sets of places, of events and of conditions are bits throughout, so a call makes no objects.
 */
public final class NetUnfolder {
    public static final int NONE = -1;
    public static final int UNSAFE = -2;
    public static final int ROOM = -3;

    private static final int PLACES = 8;
    private static final int ALL_PLACES = 255;
    private static final int MAX_TRANSITIONS = 8;
    private static final int MAX_EVENTS = 30;
    private static final int MAX_CONDITIONS = 60;
    private static final int MAX_POSSIBLE = 200;

    private final Net net;
    private final Prefix prefix;
    private final Way latest;
    private final Unfolding unfolding;
    private final Question question;

    public NetUnfolder() {
        net = new Net();
        prefix = new Prefix();
        latest = new Way();
        unfolding = new Unfolding(net, prefix, latest);
        question = new Question(net, prefix, latest);
    }

    public int transition(int preset, int postset)
            throws IllegalArgumentException, IllegalStateException {
        if (preset == 0 || !isMarking(preset) || !isMarking(postset)) {
            throw new IllegalArgumentException();
        }
        if (net.size >= MAX_TRANSITIONS) {
            throw new IllegalStateException();
        }
        dropPrefixAndWay();
        return net.add(preset, postset);
    }

    public void first(int m) throws IllegalArgumentException {
        if (!isMarking(m)) {
            throw new IllegalArgumentException();
        }
        dropPrefixAndWay();
        net.first = m;
    }

    public void clear() {
        dropPrefixAndWay();
        net.wipe();
    }

    public int unfold() {
        int answer = unfolding.run();
        if (answer == ROOM) {
            dropPrefixAndWay();
        }
        return answer;
    }

    public int reach(int m) throws IllegalArgumentException, IllegalStateException {
        if (!isMarking(m)) {
            throw new IllegalArgumentException();
        }
        if (!prefix.whole) {
            throw new IllegalStateException();
        }
        return question.askMarking(m);
    }

    public int deadlock() throws IllegalStateException {
        if (!prefix.whole) {
            throw new IllegalStateException();
        }
        return question.askDeadlock();
    }

    public int way(int k) {
        return latest.step(k);
    }

    public int play(int n) throws IllegalArgumentException, IllegalStateException {
        boolean thereIsAWay = latest.length != NONE;
        if (n < 0 || thereIsAWay && n > latest.length) {
            throw new IllegalArgumentException();
        }
        if (!thereIsAWay) {
            throw new IllegalStateException();
        }
        int marking = net.first;
        for (int k = 0; k < n; k++) {
            int t = latest.step(k);
            if (!net.enables(marking, t)) {
                throw new IllegalStateException();
            }
            marking = net.fire(marking, t);
        }
        return marking;
    }

    public int count(int what) {
        switch (what) {
            case 0:
                return prefix.events;
            case 1:
                return prefix.conditions;
            case 2:
                return Integer.bitCount(prefix.cutOffs);
            case 3:
                return latest.length;
            default:
                return NONE;
        }
    }

    public int event(int e, int what) {
        if (e < 0 || e >= prefix.events) {
            return NONE;
        }
        switch (what) {
            case 0:
                return prefix.transition[e];
            case 1:
                return Integer.bitCount(prefix.causes[e]);
            case 2:
                return prefix.marking[e];
            case 3:
                return prefix.isCutOff(e) ? 1 : 0;
            default:
                return NONE;
        }
    }

    public int takes(int e, int k) {
        if (e < 0 || e >= prefix.events) {
            return NONE;
        }
        return prefix.takenBy(e, k);
    }

    public int condition(int c, int what) {
        if (c < 0 || c >= prefix.conditions) {
            return NONE;
        }
        switch (what) {
            case 0:
                return prefix.place[c];
            case 1:
                return prefix.maker[c];
            case 2:
                return Integer.bitCount(prefix.takers[c]);
            default:
                return NONE;
        }
    }

    public boolean concurrent(int c, int d) {
        if (c < 0 || c >= prefix.conditions || d < 0 || d >= prefix.conditions) {
            return false;
        }
        return has(prefix.beside[c], d);
    }

    private void dropPrefixAndWay() {
        prefix.wipe();
        latest.drop();
    }

    private static boolean isMarking(int m) {
        return m >= 0 && m <= ALL_PLACES;
    }

    private static boolean has(long set, int member) {
        return (set >>> member & 1L) != 0;
    }

    /** The least member of a set that has one. */
    private static int least(long set) {
        return Long.bitCount((set & -set) - 1);
    }

    /** The transitions and the first marking. */
    private static final class Net {
        final int[] preset = new int[MAX_TRANSITIONS];
        final int[] postset = new int[MAX_TRANSITIONS];
        int size;
        int first;

        void wipe() {
            size = 0;
            first = 0;
        }

        int add(int pre, int post) {
            preset[size] = pre;
            postset[size] = post;
            size++;
            return size - 1;
        }

        boolean enables(int marking, int t) {
            return t >= 0 && t < size && (marking & preset[t]) == preset[t];
        }

        int fire(int marking, int t) {
            return marking & ~preset[t] | postset[t];
        }
    }

    /** The latest way: a row of transitions, or none. */
    private static final class Way {
        private final int[] steps = new int[MAX_EVENTS + 1];
        int length = NONE;

        void drop() {
            length = NONE;
        }

        void begin() {
            length = 0;
        }

        void add(int t) {
            if (length >= 0 && length < steps.length) {
                steps[length] = t;
                length++;
            }
        }

        int step(int k) {
            return k >= 0 && k < length ? steps[k] : NONE;
        }
    }

    /** The events and conditions that have come; none of them when there is no prefix. */
    private static final class Prefix {
        int conditions;
        final int[] place = new int[MAX_CONDITIONS];
        final int[] maker = new int[MAX_CONDITIONS];
        final int[] takers = new int[MAX_CONDITIONS];
        final long[] beside = new long[MAX_CONDITIONS];
        final long[] ofPlace = new long[PLACES];

        int events;
        final int[] transition = new int[MAX_EVENTS];
        final long[] taken = new long[MAX_EVENTS];
        final int[] causes = new int[MAX_EVENTS];
        final int[] marking = new int[MAX_EVENTS];
        final long[] rank = new long[MAX_EVENTS];
        int cutOffs;

        boolean whole;

        void wipe() {
            conditions = 0;
            Arrays.fill(ofPlace, 0L);
            events = 0;
            cutOffs = 0;
            whole = false;
        }

        boolean isCutOff(int e) {
            return has(cutOffs, e);
        }

        long allConditions() {
            return (1L << conditions) - 1;
        }

        /** Makes a condition for each place, all of them concurrent with those given and each other. */
        long addConditions(int places, int by, long concurrentWith) {
            long before = allConditions();
            for (int p = 0; p < PLACES; p++) {
                if (has(places, p) && conditions < MAX_CONDITIONS) {
                    place[conditions] = p;
                    maker[conditions] = by;
                    takers[conditions] = 0;
                    ofPlace[p] |= 1L << conditions;
                    conditions++;
                }
            }
            long made = allConditions() & ~before;
            for (int c = 0; c < conditions; c++) {
                if (has(made, c)) {
                    beside[c] = (concurrentWith | made) & ~(1L << c);
                } else if (has(concurrentWith, c)) {
                    beside[c] |= made;
                }
            }
            return made;
        }

        /** The event's number; its marking, and whether it is a cut-off, are told behind this. */
        int addEvent(int t, long takes, long rankKey) {
            int e = events;
            transition[e] = t;
            taken[e] = takes;
            causes[e] = causesOf(takes) | 1 << e;
            rank[e] = rankKey;
            for (int c = 0; c < conditions; c++) {
                if (has(takes, c)) {
                    takers[c] |= 1 << e;
                }
            }
            events++;
            return e;
        }

        int causesOf(long someConditions) {
            int all = 0;
            for (int c = 0; c < conditions; c++) {
                if (has(someConditions, c) && maker[c] != NONE) {
                    all |= causes[maker[c]];
                }
            }
            return all;
        }

        /** The conditions that are concurrent with every one of those given. */
        long besideAll(long someConditions) {
            long common = allConditions();
            for (int c = 0; c < conditions; c++) {
                if (has(someConditions, c)) {
                    common &= beside[c];
                }
            }
            return common;
        }

        int markingOf(int soundSet) {
            int places = 0;
            for (int c = 0; c < conditions; c++) {
                boolean made = maker[c] == NONE || has(soundSet, maker[c]);
                if (made && (takers[c] & soundSet) == 0) {
                    places |= 1 << place[c];
                }
            }
            return places;
        }

        /**
         * The rank of an event with these causes and itself, as one number: how many they are, then
         * for each transition how far it is from being all of them. Of two sorted rows of one length
         * the lesser has more of the first transition in which they differ, so more must make the
         * number less.
         */
        long rankOf(int t, int causesBefore) {
            long key = Integer.bitCount(causesBefore) + 1;
            for (int u = 0; u < MAX_TRANSITIONS; u++) {
                int times = u == t ? 1 : 0;
                for (int e = 0; e < events; e++) {
                    if (has(causesBefore, e) && transition[e] == u) {
                        times++;
                    }
                }
                key = key << 5 | MAX_EVENTS + 1 - times;
            }
            return key;
        }

        int takenBy(int e, int k) {
            int before = 0;
            for (int p = 0; p < PLACES; p++) {
                long here = taken[e] & ofPlace[p];
                if (here != 0) {
                    if (before == k) {
                        return least(here);
                    }
                    before++;
                }
            }
            return NONE;
        }
    }

    /** The possible events, with room for one more than may be, so that too many can be seen. */
    private static final class Possible {
        private final Prefix prefix;
        int size;
        final int[] transition = new int[MAX_POSSIBLE + 1];
        final long[] taken = new long[MAX_POSSIBLE + 1];
        final long[] rank = new long[MAX_POSSIBLE + 1];

        Possible(Prefix prefix) {
            this.prefix = prefix;
        }

        void wipe() {
            size = 0;
        }

        boolean tooMany() {
            return size > MAX_POSSIBLE;
        }

        void add(int t, long takes, long rankKey) {
            if (!tooMany()) {
                transition[size] = t;
                taken[size] = takes;
                rank[size] = rankKey;
                size++;
            }
        }

        void remove(int i) {
            size--;
            transition[i] = transition[size];
            taken[i] = taken[size];
            rank[i] = rank[size];
        }

        int next() {
            int best = 0;
            for (int i = 1; i < size; i++) {
                if (comesBefore(i, best)) {
                    best = i;
                }
            }
            return best;
        }

        private boolean comesBefore(int i, int j) {
            if (rank[i] != rank[j]) {
                return rank[i] < rank[j];
            }
            if (transition[i] != transition[j]) {
                return transition[i] < transition[j];
            }
            for (int p = 0; p < PLACES; p++) {
                long here = taken[i] & prefix.ofPlace[p];
                long there = taken[j] & prefix.ofPlace[p];
                if (here != there) {
                    return here < there;
                }
            }
            return false;
        }
    }

    /** Makes the prefix, event by event. */
    private static final class Unfolding {
        private final Net net;
        private final Prefix prefix;
        private final Way way;
        private final Possible possible;

        Unfolding(Net net, Prefix prefix, Way way) {
            this.net = net;
            this.prefix = prefix;
            this.way = way;
            this.possible = new Possible(prefix);
        }

        int run() {
            begin();
            for (int round = 0; round <= MAX_EVENTS; round++) {
                if (possible.tooMany()) {
                    return ROOM;
                }
                if (possible.size == 0) {
                    prefix.whole = true;
                    return prefix.events;
                }
                int next = possible.next();
                int rival = rivalOf(next);
                if (rival != NONE) {
                    tellWay(next, rival);
                    return UNSAFE;
                }
                if (!letCome(next)) {
                    return ROOM;
                }
            }
            return ROOM;
        }

        private void begin() {
            prefix.wipe();
            possible.wipe();
            long made = prefix.addConditions(net.first, NONE, 0L);
            findPossible(made, made);
        }

        /** The least condition that would stand beside another one of its place, if the event came. */
        private int rivalOf(int next) {
            int postset = net.postset[possible.transition[next]];
            long beside = prefix.besideAll(possible.taken[next]);
            for (int c = 0; c < prefix.conditions; c++) {
                if (has(beside, c) && has(postset, prefix.place[c])) {
                    return c;
                }
            }
            return NONE;
        }

        private void tellWay(int next, int rival) {
            int ofRival = prefix.causesOf(1L << rival);
            int others = prefix.causesOf(possible.taken[next]) & ~ofRival;
            way.begin();
            tellTransitions(ofRival);
            tellTransitions(others);
            way.add(possible.transition[next]);
        }

        private void tellTransitions(int someEvents) {
            for (int e = 0; e < prefix.events; e++) {
                if (has(someEvents, e)) {
                    way.add(prefix.transition[e]);
                }
            }
        }

        /** Whether there was room for the event. */
        private boolean letCome(int next) {
            if (prefix.events >= MAX_EVENTS) {
                return false;
            }
            int t = possible.transition[next];
            long taken = possible.taken[next];
            long rank = possible.rank[next];
            int marking = net.fire(prefix.markingOf(prefix.causesOf(taken)), t);
            boolean cutOff = leadsToNothingNew(marking, rank);
            int more = cutOff ? 0 : Integer.bitCount(net.postset[t]);
            if (prefix.conditions + more > MAX_CONDITIONS) {
                return false;
            }
            possible.remove(next);
            int e = prefix.addEvent(t, taken, rank);
            prefix.marking[e] = marking;
            if (cutOff) {
                prefix.cutOffs |= 1 << e;
            } else {
                long beside = prefix.besideAll(taken);
                long made = prefix.addConditions(net.postset[t], e, beside);
                findPossible(beside | made, made);
            }
            return true;
        }

        private boolean leadsToNothingNew(int marking, long rank) {
            if (marking == net.first) {
                return true;
            }
            for (int e = 0; e < prefix.events; e++) {
                if (prefix.marking[e] == marking && prefix.rank[e] < rank) {
                    return true;
                }
            }
            return false;
        }

        /** Finds the events that take something new: what takes only old conditions is known. */
        private void findPossible(long from, long fresh) {
            for (int t = 0; t < net.size; t++) {
                choose(t, 0, from, 0L, fresh);
            }
        }

        /** Chooses a condition for place p, and for those behind it, of those still concurrent. */
        private void choose(int t, int p, long from, long chosen, long fresh) {
            if (possible.tooMany() || ((from | chosen) & fresh) == 0) {
                return;
            }
            if (p >= PLACES) {
                if ((chosen & fresh) != 0) {
                    possible.add(t, chosen, prefix.rankOf(t, prefix.causesOf(chosen)));
                }
                return;
            }
            if (!has(net.preset[t], p)) {
                choose(t, p + 1, from, chosen, fresh);
                return;
            }
            long here = from & prefix.ofPlace[p];
            for (int c = 0; c < prefix.conditions; c++) {
                if (has(here, c)) {
                    choose(t, p + 1, from & prefix.beside[c], chosen | 1L << c, fresh);
                }
            }
        }
    }

    /** Puts a question to the whole prefix as clauses, and tells the way of the set that is found. */
    private static final class Question {
        private final Net net;
        private final Prefix prefix;
        private final Way way;
        private final Clauses clauses = new Clauses();
        private final Search search = new Search(clauses);
        private int usable;

        Question(Net net, Prefix prefix, Way way) {
            this.net = net;
            this.prefix = prefix;
            this.way = way;
        }

        int askMarking(int m) {
            describePrefix();
            for (int p = 0; p < PLACES; p++) {
                boolean marked = has(m, p);
                clauses.give(marked ? placeBit(p) : 0L, marked ? 0L : placeBit(p));
            }
            return answer();
        }

        int askDeadlock() {
            describePrefix();
            for (int t = 0; t < net.size; t++) {
                clauses.give(0L, (long) net.preset[t] << MAX_EVENTS);
            }
            return answer();
        }

        private int answer() {
            way.drop();
            if (search.solve(usable | (long) ALL_PLACES << MAX_EVENTS)) {
                way.begin();
                for (int e = 0; e < prefix.events; e++) {
                    if (search.says(e)) {
                        way.add(prefix.transition[e]);
                    }
                }
            }
            return way.length;
        }

        private static long placeBit(int p) {
            return 1L << MAX_EVENTS + p;
        }

        /** The clauses that hold for a sound set without cut-offs and the places of its marking. */
        private void describePrefix() {
            clauses.wipe();
            usable = (1 << prefix.events) - 1 & ~prefix.cutOffs;
            for (int e = 0; e < prefix.events; e++) {
                if (has(usable, e)) {
                    describeEvent(e);
                }
            }
            for (int c = 0; c < prefix.conditions; c++) {
                describeCondition(c);
            }
            for (int p = 0; p < PLACES; p++) {
                if (!has(net.first, p)) {
                    clauses.give(makersOf(p, NONE), placeBit(p));
                }
            }
        }

        /** It comes with its causes, and without the events that take what it takes. */
        private void describeEvent(int e) {
            for (int f = 0; f < e; f++) {
                if (has(prefix.causes[e], f)) {
                    clauses.give(1L << f, 1L << e);
                } else if (has(usable, f) && (prefix.taken[e] & prefix.taken[f]) != 0) {
                    clauses.give(0L, 1L << e | 1L << f);
                }
            }
        }

        /**
         * What is made and not taken marks its place; once it is taken, only what is made behind its
         * taker can. For in a safe net the conditions of one place come one behind the other in
         * every sound set, and the last of them tells.
         */
        private void describeCondition(int c) {
            int p = prefix.place[c];
            int takers = prefix.takers[c] & usable;
            long made = prefix.maker[c] == NONE ? 0L : 1L << prefix.maker[c];
            clauses.give(takers | placeBit(p), made);
            for (int e = 0; e < prefix.events; e++) {
                if (has(takers, e)) {
                    clauses.give(makersOf(p, e), 1L << e | placeBit(p));
                }
            }
        }

        /** The events that make conditions of place p and have the cause given, if one is given. */
        private long makersOf(int p, int cause) {
            long makers = 0L;
            for (int c = 0; c < prefix.conditions; c++) {
                int e = prefix.maker[c];
                if (prefix.place[c] == p && e != NONE) {
                    if (cause == NONE || has(prefix.causes[e], cause)) {
                        makers |= 1L << e;
                    }
                }
            }
            return makers;
        }
    }

    /** Clauses over events and places, first those given, then those learned. */
    private static final class Clauses {
        private static final int MAX_GIVEN = MAX_EVENTS * (MAX_EVENTS - 1) / 2
                + MAX_CONDITIONS + MAX_EVENTS * PLACES + PLACES + PLACES;
        private static final int MAX_LEARNED = 64;

        final long[] yes = new long[MAX_GIVEN + MAX_LEARNED];
        final long[] no = new long[MAX_GIVEN + MAX_LEARNED];
        int size;
        int given;

        void wipe() {
            size = 0;
            given = 0;
        }

        boolean isFull() {
            return size >= yes.length || size - given >= MAX_LEARNED;
        }

        /** One of these in the set, or one of those not in it; what always holds is left out. */
        void give(long in, long out) {
            if ((in & out) == 0 && given < MAX_GIVEN) {
                yes[given] = in;
                no[given] = out;
                given++;
                size = given;
            }
        }

        void learn(long in, long out) {
            if (!isFull()) {
                yes[size] = in;
                no[size] = out;
                size++;
            }
        }

        void move(int from, int to) {
            yes[to] = yes[from];
            no[to] = no[from];
        }
    }

    /**
     * A search with learned clauses. The least open variable is always tried first, and "no" before
     * "yes": so a "yes" is only there where the "no"s of lesser variables force it, and the first
     * answer found is the first of all.
     */
    private static final class Search {
        private static final int VARIABLES = MAX_EVENTS + PLACES;
        private static final int MAX_ROUNDS = 1000000;

        private final Clauses clauses;
        private long yes;
        private long no;
        private int level;
        private final long[] setAt = new long[VARIABLES + 1];
        private final int[] trail = new int[VARIABLES];
        private int trailSize;
        private final int[] reason = new int[VARIABLES];

        Search(Clauses clauses) {
            this.clauses = clauses;
        }

        boolean says(int variable) {
            return has(yes, variable);
        }

        boolean solve(long variables) {
            begin();
            for (int round = 0; round < MAX_ROUNDS; round++) {
                int broken = propagate();
                long open = variables & ~(yes | no);
                if (broken != NONE) {
                    if (level == 0) {
                        return false;
                    }
                    learnFrom(broken);
                } else if (open == 0) {
                    return true;
                } else {
                    decide(least(open));
                }
            }
            return false;
        }

        private void begin() {
            yes = 0L;
            no = 0L;
            level = 0;
            trailSize = 0;
            Arrays.fill(setAt, 0L);
        }

        private void decide(int variable) {
            level++;
            assign(variable, false, NONE);
        }

        private void assign(int variable, boolean in, int why) {
            long bit = 1L << variable;
            if (in) {
                yes |= bit;
            } else {
                no |= bit;
            }
            setAt[level] |= bit;
            trail[trailSize] = variable;
            trailSize++;
            reason[variable] = why;
        }

        /** Follows clauses with one open literal; answers a clause that is broken, or NONE. */
        private int propagate() {
            for (int round = 0; round <= VARIABLES; round++) {
                int before = trailSize;
                for (int i = 0; i < clauses.size; i++) {
                    if ((clauses.yes[i] & yes | clauses.no[i] & no) == 0) {
                        long open = (clauses.yes[i] | clauses.no[i]) & ~(yes | no);
                        if (open == 0) {
                            return i;
                        }
                        if ((open & open - 1) == 0) {
                            assign(least(open), (clauses.yes[i] & open) != 0, i);
                        }
                    }
                }
                if (trailSize == before) {
                    return NONE;
                }
            }
            return NONE;
        }

        /**
         * Resolves the broken clause with the reasons of its latest variables until one variable of
         * this level is left: the clause so learned forces that one already at an earlier level.
         */
        private void learnFrom(int broken) {
            long in = clauses.yes[broken];
            long out = clauses.no[broken];
            for (int k = trailSize - 1; k >= 0; k--) {
                if (Long.bitCount((in | out) & setAt[level]) <= 1) {
                    break;
                }
                int why = reason[trail[k]];
                long bit = 1L << trail[k];
                if (((in | out) & bit) != 0 && why != NONE) {
                    in = (in | clauses.yes[why]) & ~bit;
                    out = (out | clauses.no[why]) & ~bit;
                }
            }
            goBack(levelBelow(in | out));
            if (clauses.isFull()) {
                forgetIdle();
            }
            clauses.learn(in & ~setAt[0], out & ~setAt[0]);
        }

        /** The highest level below this one at which one of the variables was set. */
        private int levelBelow(long variables) {
            for (int l = level - 1; l > 0; l--) {
                if ((variables & setAt[l]) != 0) {
                    return l;
                }
            }
            return 0;
        }

        private void goBack(int target) {
            for (int l = level; l > target; l--) {
                yes &= ~setAt[l];
                no &= ~setAt[l];
                trailSize -= Long.bitCount(setAt[l]);
                setAt[l] = 0L;
            }
            level = target;
        }

        /** Keeps of the learned clauses those that are reasons: the search needs no others to end. */
        private void forgetIdle() {
            int kept = clauses.given;
            for (int i = clauses.given; i < clauses.size; i++) {
                int forced = forcedBy(i);
                if (forced != NONE) {
                    clauses.move(i, kept);
                    reason[forced] = kept;
                    kept++;
                }
            }
            clauses.size = kept;
        }

        private int forcedBy(int clause) {
            for (int k = 0; k < trailSize; k++) {
                if (reason[trail[k]] == clause) {
                    return trail[k];
                }
            }
            return NONE;
        }
    }
}
