/** The sentences of the promises that name a boundary case, each in every state of an object. */
public final class PromiseEdgesTest {
    private static final int NONE = NetUnfolder.NONE;
    private static final int MIN = Integer.MIN_VALUE;
    private static final int MAX = Integer.MAX_VALUE;

    /** Too small, too large, and numbers whose last bits alone would be a marking. */
    private static final int[] NO_MARKINGS = {-1, 256, 257, 511, -255, -256, 65536 + 3, MIN, MIN + 3, MAX};

    /** Numbers that never count anything, also where they wrap around or only their last bits count. */
    private static final int[] NO_INDICES = {-1, -2, 64, 256, 65536, -64, MIN, MIN + 1, MAX, MAX - 1};

    public static void main(String[] args) {
        promise1NoTransitions();
        promise1EmptyFirstMarking();
        promise1NoPrefix();
        promise1OwnState();
        promise2Numbers();
        promise2WrongPreset();
        promise2WrongPostset();
        promise2Edges();
        promise2Eight();
        promise2NoPrefixThen();
        promise3Edges();
        promise3WrongMarking();
        promise3NoPrefixThen();
        promise4AsAtTheBeginning();
        promise5Whole();
        promise5Unsafe();
        promise5Room();
        promise5Again();
        promise6Edges();
        promise6None();
        promise6WrongMarking();
        promise6NotWhole();
        promise7None();
        promise7Edges();
        promise7NotWhole();
        promise8Edges();
        promise9Edges();
        promise9WrongNumber();
        promise9NoWay();
        promise10Counts();
        promise10NoPrefix();
        promise10OtherWhat();
        promise11NoEvent();
        promise11OtherWhat();
        promise12None();
        promise13NoCondition();
        promise13NoMaker();
        promise13OtherWhat();
        promise14OneNotThere();
        Checks.end();
    }

    private static void promise1NoTransitions() {
        Checks.about("1: A net without transitions");
        NetUnfolder x = new NetUnfolder();
        x.first(255);
        Checks.same("unfold", x.unfold(), 0);
        Checks.same("deadlock", x.deadlock(), 0);
        Checks.same("the first one's number", x.transition(1, 1), 0);
    }

    private static void promise1EmptyFirstMarking() {
        Checks.about("1: and an empty first marking");
        NetUnfolder x = new NetUnfolder();
        x.transition(1, 2);
        Checks.same("unfold", x.unfold(), 0);
        Checks.same("conditions", x.count(1), 0);
        Checks.same("reach(0)", x.reach(0), 0);
        Checks.same("play(0)", x.play(0), 0);
    }

    private static void promise1NoPrefix() {
        Checks.about("1: no prefix");
        Expect.noPrefix(new NetUnfolder());
    }

    private static void promise1OwnState() {
        Checks.about("1: A new object has nothing of another one");
        NetUnfolder x = States.WITH_WAY.make();
        String before = Expect.stateOf(x);
        NetUnfolder y = States.NOT_SAFE.make();
        Expect.noPrefix(new NetUnfolder());
        Checks.sameText("one object", Expect.stateOf(x), before);
        x.clear();
        Expect.wayIs(y, 0, 1, 2);
    }

    private static void promise2Numbers() {
        Checks.about("2: A transition more; answers its number");
        NetUnfolder x = new NetUnfolder();
        for (int t = 0; t < 8; t++) {
            Checks.same("number", x.transition(1 + t, t), t);
        }
    }

    private static void promise2WrongPreset() {
        Checks.about("2: IllegalArgumentException, changing nothing, when preset is not 1 .. 255");
        for (States state : States.values()) {
            for (int preset : NO_MARKINGS) {
                refusesTransition(state, preset, 1);
            }
            refusesTransition(state, 0, 1);
            refusesTransition(state, 0, 0);
        }
    }

    private static void promise2WrongPostset() {
        Checks.about("2: IllegalArgumentException, changing nothing, when .. postset not 0 .. 255");
        for (States state : States.values()) {
            for (int postset : NO_MARKINGS) {
                refusesTransition(state, 1, postset);
                refusesTransition(state, postset, postset);
            }
        }
    }

    private static void refusesTransition(States state, int preset, int postset) {
        NetUnfolder x = state.make();
        String call = state + ": transition(" + preset + ", " + postset + ")";
        Expect.refusedArgument(x, call, () -> x.transition(preset, postset));
        unfoldsLikeNew(call, x, state);
        Checks.same("no number was given: " + call, x.transition(1, 1), state.make().transition(1, 1));
    }

    /** The net itself is as it was: unfolded once more, it answers like that of a new object. */
    private static void unfoldsLikeNew(String call, NetUnfolder x, States state) {
        NetUnfolder y = state.make();
        Checks.same("unfold behind " + call, x.unfold(), y.unfold());
        Checks.sameText("the net behind " + call, Expect.stateOf(x), Expect.stateOf(y));
    }

    private static void promise2Edges() {
        Checks.about("2: preset 1 .. 255, postset 0 .. 255: the least and the greatest are taken");
        for (States state : States.values()) {
            int[] presets = {1, 255, 1, 255, 128};
            int[] postsets = {0, 0, 255, 255, 128};
            for (int k = 0; k < presets.length; k++) {
                NetUnfolder x = state.make();
                x.transition(presets[k], postsets[k]);
                Expect.noPrefix(x);
            }
        }
    }

    private static void promise2Eight() {
        Checks.about("2: IllegalStateException when there are eight");
        NetUnfolder x = new NetUnfolder();
        x.first(1);
        for (int t = 0; t < 8; t++) {
            x.transition(1, 2);
        }
        Expect.refusedState(x, "without a prefix", () -> x.transition(1, 2));
        Checks.same("unfold", x.unfold(), 8);
        Checks.same("reach", x.reach(2), 1);
        Expect.refusedState(x, "with a prefix and a way", () -> x.transition(255, 255));
        Expect.refusedState(x, "once more", () -> x.transition(1, 0));
        Expect.refusedArgument(x, "a wrong one", () -> x.transition(0, 0));
        Checks.same("reach again", x.reach(2), 1);
        x.clear();
        Checks.same("cleared, there are none", x.transition(1, 2), 0);
    }

    private static void promise2NoPrefixThen() {
        Checks.about("2: There is no prefix and no way then");
        for (States state : States.values()) {
            NetUnfolder x = state.make();
            x.transition(128, 128);
            Expect.noPrefix(x);
        }
    }

    private static void promise3Edges() {
        Checks.about("3: The first marking becomes m: 0 .. 255");
        NetUnfolder x = new NetUnfolder();
        int[] markings = {255, 0, 1, 128, 254, 127};
        for (int m : markings) {
            x.first(m);
            x.unfold();
            Checks.same("conditions", x.count(1), Integer.bitCount(m));
            Checks.same("reach", x.reach(m), 0);
            Checks.same("play", x.play(0), m);
        }
    }

    private static void promise3WrongMarking() {
        Checks.about("3: IllegalArgumentException, changing nothing, when it is not 0 .. 255");
        for (States state : States.values()) {
            for (int m : NO_MARKINGS) {
                NetUnfolder x = state.make();
                Expect.refusedArgument(x, state + ": first(" + m + ")", () -> x.first(m));
                unfoldsLikeNew(state + ": first(" + m + ")", x, state);
            }
        }
    }

    private static void promise3NoPrefixThen() {
        Checks.about("3: There is no prefix and no way then");
        for (States state : States.values()) {
            NetUnfolder x = state.make();
            x.first(3);
            Expect.noPrefix(x);
        }
    }

    private static void promise4AsAtTheBeginning() {
        Checks.about("4: All is as at the beginning");
        for (States state : States.values()) {
            NetUnfolder x = state.make();
            x.clear();
            Expect.noPrefix(x);
            Checks.same("unfold", x.unfold(), 0);
            Checks.same("no condition", x.count(1), 0);
            Checks.same("no token", x.reach(0), 0);
            x.clear();
            Checks.same("no transition", x.transition(1, 2), 0);
            x.first(1);
            Checks.same("unfold of a new net", x.unfold(), 1);
            Checks.same("its takers", x.condition(0, 2), 1);
            Checks.same("its cut-offs", x.count(2), 0);
        }
    }

    private static void promise5Whole() {
        Checks.about("5: how many events it has, when it is whole");
        int[] due = {0, 3, 3, 0, 3, 3, 3, 1, NetUnfolder.UNSAFE, NetUnfolder.ROOM, 3, 0};
        for (States state : States.values()) {
            NetUnfolder x = state.make();
            int answer = x.unfold();
            Checks.same(state + ": unfold", answer, due[state.ordinal()]);
            Checks.same(state + ": events", x.count(0), answer >= 0 ? answer : x.count(0));
        }
    }

    private static void promise5Unsafe() {
        Checks.about("5: UNSAFE (the way is that one; there is what came before)");
        NetUnfolder x = States.NOT_SAFE.make();
        Expect.wayIs(x, 0, 1, 2);
        Checks.same("events", x.count(0), 2);
        Checks.same("conditions", x.count(1), 4);
        Checks.same("cut-offs", x.count(2), 0);
        Expect.eventIs(x, 1, 1, 1, 9, 0);
        Expect.takesAre(x, 1, 1);
        Checks.that("concurrent", x.concurrent(2, 3));
        Checks.same("play", x.play(3), 4);
        x.transition(128, 128);
        x.first(1);
        Checks.same("once it is safe", x.unfold(), 1);
        Expect.noWay(x);
    }

    private static void promise5Room() {
        Checks.about("5: or ROOM (there is no way, and no prefix)");
        Expect.noPrefix(States.NO_ROOM.make());
    }

    private static void promise5Again() {
        Checks.about("5: Makes the prefix: once more, it is the same");
        for (States state : States.values()) {
            NetUnfolder x = state.make();
            int answer = x.unfold();
            String before = Expect.stateOf(x);
            Checks.same(state + ": unfold again", x.unfold(), answer);
            Checks.sameText(state + ": all again", Expect.stateOf(x), before);
            // Only UNSAFE and ROOM are said to do something to the latest way.
            Checks.same(state + ": way", x.count(3), answer == NetUnfolder.UNSAFE ? 3 : state.wayLength);
        }
    }

    private static void promise6Edges() {
        Checks.about("6: The question for marking m, 0 .. 255: how long the way is");
        NetUnfolder none = Expect.unfolded(1, 1, 1, 0);
        Checks.same("reach(0)", none.reach(0), 1);
        Expect.wayIs(none, 0);
        Checks.same("play", none.play(1), 0);
        NetUnfolder most = Expect.unfolded(1, 1, 1, 254);
        Checks.same("reach(254)", most.reach(254), 1);
        NetUnfolder first = Expect.unfolded(0, 255);
        Checks.same("an empty way", first.reach(255), 0);
        Expect.wayIs(first);
    }

    private static void promise6None() {
        Checks.about("6: NONE, and no way, when there is none");
        for (States state : States.values()) {
            if (state.whole) {
                NetUnfolder x = state.make();
                Checks.same(state + ": reach", x.reach(255), NONE);
                Expect.noWay(x);
                Checks.same(state + ": the prefix stays", x.count(0), state.make().count(0));
                Checks.same(state + ": once more", x.reach(254), NONE);
                Expect.noWay(x);
            }
        }
    }

    private static void promise6WrongMarking() {
        Checks.about("6: IllegalArgumentException when m is not 0 .. 255; changing nothing");
        for (States state : States.values()) {
            for (int m : NO_MARKINGS) {
                NetUnfolder x = state.make();
                Expect.refusedArgument(x, state + ": reach(" + m + ")", () -> x.reach(m));
                if (state.whole) {
                    Checks.same(state + ": still whole", x.reach(255), NONE);
                }
            }
        }
    }

    private static void promise6NotWhole() {
        Checks.about("6: IllegalStateException when the prefix is not whole; changing nothing");
        for (States state : States.values()) {
            if (!state.whole) {
                for (int m = 0; m < 256; m += 51) {
                    int marking = m;
                    NetUnfolder x = state.make();
                    Expect.refusedState(x, state + ": reach(" + m + ")", () -> x.reach(marking));
                    unfoldsLikeNew(state + ": reach(" + m + ")", x, state);
                }
            }
        }
    }

    private static void promise7None() {
        Checks.about("7: likewise: NONE, and no way, when there is none");
        NetUnfolder x = Expect.unfolded(2, 1, 1, 2, 2, 1);
        x.reach(2);
        Checks.same("deadlock", x.deadlock(), NONE);
        Expect.noWay(x);
        Checks.same("the prefix stays", x.count(0), 2);
        Checks.same("once more", x.deadlock(), NONE);
    }

    private static void promise7Edges() {
        Checks.about("7: a marking that enables no transition");
        NetUnfolder one = Expect.unfolded(1, 1, 1, 2);
        Checks.same("deadlock", one.deadlock(), 1);
        Expect.wayIs(one, 0);
        NetUnfolder atOnce = Expect.unfolded(0, 127, 255, 255);
        Checks.same("at once", atOnce.deadlock(), 0);
        Expect.wayIs(atOnce);
        NetUnfolder nothing = Expect.unfolded(0, 0);
        Checks.same("without transitions", nothing.deadlock(), 0);
        // The last of eight transitions alone keeps it going.
        NetUnfolder going = Expect.unfolded(8, 1, 1, 2, 2, 4, 4, 8, 8, 16, 16, 32, 32, 64, 64, 128, 128, 1);
        Checks.same("it goes on", going.deadlock(), NONE);
    }

    private static void promise7NotWhole() {
        Checks.about("7: likewise: IllegalStateException when the prefix is not whole; changing nothing");
        for (States state : States.values()) {
            NetUnfolder x = state.make();
            if (state.whole) {
                Checks.that(state + ": deadlock", x.deadlock() >= 0);
            } else {
                Expect.refusedState(x, state + ": deadlock", x::deadlock);
                unfoldsLikeNew(state + ": deadlock", x, state);
            }
        }
    }

    private static void promise8Edges() {
        Checks.about("8: The k-th transition (from 0 on) of the latest way; NONE when there is none");
        for (States state : States.values()) {
            NetUnfolder x = state.make();
            for (int k : NO_INDICES) {
                Checks.same(state + ": way(" + k + ")", x.way(k), NONE);
            }
            for (int k = 0; k < 40; k++) {
                Checks.that(state + ": way(" + k + ")", x.way(k) == NONE == k >= state.wayLength);
            }
        }
        NetUnfolder x = States.WITH_WAY.make();
        x.reach(6);
        Checks.same("the latest way", x.way(0), 1);
        Checks.same("nothing is left of an earlier one", x.way(1), NONE);
    }

    private static void promise9Edges() {
        Checks.about("9: The marking that comes of the first marking by firing the first n");
        NetUnfolder x = States.WITH_WAY.make();
        int[] due = {3, 6, 12};
        for (int n = 0; n < due.length; n++) {
            Checks.same("play(" + n + ")", x.play(n), due[n]);
        }
        Checks.same("of an empty way", States.WITH_EMPTY_WAY.make().play(0), 3);
        Checks.same("of one that is not safe", States.NOT_SAFE.make().play(3), 4);
    }

    private static void promise9WrongNumber() {
        Checks.about("9: IllegalArgumentException when n is below 0 or above its length");
        for (States state : States.values()) {
            NetUnfolder x = state.make();
            for (int n : NO_INDICES) {
                if (n < 0 || state.hasWay()) {
                    Checks.badArgument(state + ": play(" + n + ")", () -> x.play(n));
                }
            }
            if (state.hasWay()) {
                int above = state.wayLength + 1;
                Expect.refusedArgument(x, state + ": play(" + above + ")", () -> x.play(above));
                Expect.refusedArgument(x, state + ": play(-1)", () -> x.play(-1));
            }
        }
    }

    private static void promise9NoWay() {
        Checks.about("9: IllegalStateException when there is no way");
        for (States state : States.values()) {
            if (!state.hasWay()) {
                NetUnfolder x = state.make();
                int[] numbers = {0, 1, 9, 31, MAX};
                for (int n : numbers) {
                    Checks.badState(state + ": play(" + n + ")", () -> x.play(n));
                }
                Expect.refusedState(x, state + ": play(0)", () -> x.play(0));
            }
        }
    }

    private static void promise10Counts() {
        Checks.about("10: events (what 0), conditions (1), cut-offs (2), the latest way (3; NONE without one)");
        NetUnfolder x = Expect.unfolded(5, 1, 1, 2, 1, 4, 2, 8, 4, 8, 8, 1);
        int[] due = {5, 4, 2, NONE};
        for (int what = 0; what < 4; what++) {
            Checks.same("count(" + what + ")", x.count(what), due[what]);
        }
        Checks.same("an empty prefix: conditions", Expect.unfolded(0, 0).count(1), 0);
        for (States state : States.values()) {
            Checks.same(state + ": count(3)", state.make().count(3), state.wayLength);
        }
    }

    private static void promise10NoPrefix() {
        Checks.about("10: 0 without a prefix");
        for (States state : States.values()) {
            NetUnfolder x = state.make();
            boolean empty = !state.hasPrefix() || state == States.WHOLE_AND_EMPTY;
            for (int what = 0; what < 2; what++) {
                Checks.that(state + ": count(" + what + ")", x.count(what) == 0 == empty);
            }
            Checks.same(state + ": count(2)", x.count(2), 0);
        }
    }

    private static void promise10OtherWhat() {
        Checks.about("10: NONE for another what");
        for (States state : States.values()) {
            NetUnfolder x = state.make();
            for (int what : NO_INDICES) {
                Checks.same(state + ": count(" + what + ")", x.count(what), NONE);
            }
            Checks.same(state + ": count(4)", x.count(4), NONE);
        }
    }

    private static void promise11NoEvent() {
        Checks.about("11: NONE when there is none");
        for (States state : States.values()) {
            NetUnfolder x = state.make();
            for (int e : NO_INDICES) {
                Expect.eventIs(x, e, NONE, NONE, NONE, NONE);
            }
            int[] behind = {x.count(0), x.count(0) + 1, 29, 30, 31, 32};
            for (int e : behind) {
                Expect.eventIs(x, e, NONE, NONE, NONE, NONE);
            }
            for (int e = 0; e < x.count(0); e++) {
                Checks.that(state + ": event " + e, x.event(e, 0) >= 0 && x.event(e, 3) >= 0);
            }
        }
    }

    private static void promise11OtherWhat() {
        Checks.about("11: or for another what");
        for (States state : States.values()) {
            NetUnfolder x = state.make();
            for (int what : NO_INDICES) {
                Checks.same(state + ": event(0, " + what + ")", x.event(0, what), NONE);
            }
            Checks.same(state + ": event(0, 4)", x.event(0, 4), NONE);
        }
    }

    private static void promise12None() {
        Checks.about("12: by rising places; NONE when there is none");
        for (States state : States.values()) {
            NetUnfolder x = state.make();
            for (int k : NO_INDICES) {
                Checks.same(state + ": takes(0, " + k + ")", x.takes(0, k), NONE);
                Checks.same(state + ": takes(" + k + ", 0)", x.takes(k, 0), NONE);
                Checks.same(state + ": takes(" + k + ", " + k + ")", x.takes(k, k), NONE);
            }
            Checks.same(state + ": an event too many", x.takes(x.count(0), 0), NONE);
            Checks.same(state + ": event 29", x.takes(29, 0), NONE);
            Checks.same(state + ": event 30", x.takes(30, 0), NONE);
        }
        Expect.takesAre(States.WITH_WAY.make(), 0, 0, 1);
        Expect.takesAre(States.WITH_WAY.make(), 1, 0);
        Expect.takesAre(Expect.unfolded(1, 255, 255, 0), 0, 0, 1, 2, 3, 4, 5, 6, 7);
    }

    private static void promise13NoCondition() {
        Checks.about("13: NONE when there is none");
        for (States state : States.values()) {
            NetUnfolder x = state.make();
            for (int what = 0; what < 3; what++) {
                for (int c : NO_INDICES) {
                    Checks.same(state + ": condition(" + c + ", " + what + ")", x.condition(c, what), NONE);
                }
                int[] behind = {x.count(1), x.count(1) + 1, 59, 60, 61, 63};
                for (int c : behind) {
                    Checks.same(state + ": condition(" + c + ", " + what + ")", x.condition(c, what), NONE);
                }
            }
            for (int c = 0; c < x.count(1); c++) {
                Checks.that(state + ": condition " + c, x.condition(c, 0) >= 0 && x.condition(c, 2) >= 0);
            }
        }
    }

    private static void promise13NoMaker() {
        Checks.about("13: the event that made it (1; NONE for those that were there first, too)");
        NetUnfolder x = States.WITH_WAY.make();
        int[] due = {NONE, NONE, 0, 0, 1, 2};
        for (int c = 0; c < due.length; c++) {
            Checks.same("condition(" + c + ", 1)", x.condition(c, 1), due[c]);
        }
    }

    private static void promise13OtherWhat() {
        Checks.about("13: or for another what");
        for (States state : States.values()) {
            NetUnfolder x = state.make();
            for (int what : NO_INDICES) {
                Checks.same(state + ": condition(0, " + what + ")", x.condition(0, what), NONE);
            }
            Checks.same(state + ": condition(0, 3)", x.condition(0, 3), NONE);
        }
    }

    private static void promise14OneNotThere() {
        Checks.about("14: false when one is not there");
        for (States state : States.values()) {
            NetUnfolder x = state.make();
            int conditions = x.count(1);
            int[] behind = {conditions, conditions + 1, 59, 60, 63};
            for (int c : behind) {
                notConcurrent(state, x, c, conditions);
            }
            for (int c : NO_INDICES) {
                notConcurrent(state, x, c, conditions);
            }
            Checks.that(state + ": the first two", x.concurrent(0, 1) == conditions >= 2);
        }
    }

    private static void notConcurrent(States state, NetUnfolder x, int c, int conditions) {
        for (int d = 0; d < conditions; d++) {
            Checks.that(state + ": concurrent(" + d + ", " + c + ")", !x.concurrent(d, c));
            Checks.that(state + ": concurrent(" + c + ", " + d + ")", !x.concurrent(c, d));
        }
        Checks.that(state + ": concurrent(" + c + ", " + c + ")", !x.concurrent(c, c));
    }
}
