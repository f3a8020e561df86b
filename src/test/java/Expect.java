import java.util.Arrays;

/** Nets that several tests use, and what is due of an object as a whole. */
final class Expect {
    private static final int NONE = NetUnfolder.NONE;

    private Expect() {
    }

    /** A net from its first marking and its transitions, preset and postset in turn. */
    static NetUnfolder net(int first, int... sets) {
        NetUnfolder x = new NetUnfolder();
        for (int k = 0; k + 1 < sets.length; k += 2) {
            x.transition(sets[k], sets[k + 1]);
        }
        x.first(first);
        return x;
    }

    static NetUnfolder unfolded(int due, int first, int... sets) {
        NetUnfolder x = net(first, sets);
        Checks.same("unfold of " + first + " " + Arrays.toString(sets), x.unfold(), due);
        return x;
    }

    /** Place 0 is used again by two transitions that spend places 1 and 2. */
    static NetUnfolder sharedLoop() {
        return unfolded(4, 7, 3, 1, 5, 1);
    }

    /** Transition 0 does at once what 1 and 2 do apart. */
    static NetUnfolder togetherOrApart() {
        return unfolded(3, 3, 3, 12, 1, 4, 2, 8);
    }

    static void wayIs(NetUnfolder x, int... due) {
        Checks.same("length of the way", x.count(3), due.length);
        for (int k = 0; k < due.length; k++) {
            Checks.same("way " + k, x.way(k), due[k]);
        }
        Checks.same("behind the way", x.way(due.length), NONE);
    }

    static void noWay(NetUnfolder x) {
        Checks.same("no way: count", x.count(3), NONE);
        Checks.same("no way: way", x.way(0), NONE);
        Checks.badState("no way: play", () -> x.play(0));
    }

    static void noPrefix(NetUnfolder x) {
        Checks.same("no prefix: events", x.count(0), 0);
        Checks.same("no prefix: conditions", x.count(1), 0);
        Checks.same("no prefix: cut-offs", x.count(2), 0);
        Checks.same("no prefix: event", x.event(0, 0), NONE);
        Checks.same("no prefix: takes", x.takes(0, 0), NONE);
        Checks.same("no prefix: condition", x.condition(0, 0), NONE);
        Checks.that("no prefix: concurrent", !x.concurrent(0, 1));
        Checks.badState("no prefix: reach", () -> x.reach(0));
        Checks.badState("no prefix: deadlock", x::deadlock);
        noWay(x);
    }

    static void eventIs(NetUnfolder x, int e, int transition, int causes, int marking, int cutOff) {
        Checks.same("transition of event " + e, x.event(e, 0), transition);
        Checks.same("causes of event " + e, x.event(e, 1), causes);
        Checks.same("marking of event " + e, x.event(e, 2), marking);
        Checks.same("cut-off of event " + e, x.event(e, 3), cutOff);
    }

    static void takesAre(NetUnfolder x, int e, int... due) {
        for (int k = 0; k < due.length; k++) {
            Checks.same("takes " + e + " " + k, x.takes(e, k), due[k]);
        }
        Checks.same("takes no more " + e, x.takes(e, due.length), NONE);
    }

    /** Refused as it must be, and nothing that can be seen from outside has changed. */
    static void refusedArgument(NetUnfolder x, String what, Checks.Call call) {
        String before = stateOf(x);
        Checks.badArgument(what, call);
        Checks.sameText("changes nothing: " + what, stateOf(x), before);
    }

    static void refusedState(NetUnfolder x, String what, Checks.Call call) {
        String before = stateOf(x);
        Checks.badState(what, call);
        Checks.sameText("changes nothing: " + what, stateOf(x), before);
    }

    /** All that the reading calls tell of an object with a small net. */
    static String stateOf(NetUnfolder x) {
        StringBuilder text = new StringBuilder();
        for (int what = 0; what < 4; what++) {
            text.append(x.count(what)).append(' ');
        }
        for (int e = 0; e < x.count(0); e++) {
            text.append("event ");
            for (int what = 0; what < 4; what++) {
                text.append(x.event(e, what)).append(' ');
            }
        }
        for (int c = 0; c < x.count(1); c++) {
            text.append("condition ");
            for (int what = 0; what < 3; what++) {
                text.append(x.condition(c, what)).append(' ');
            }
        }
        for (int k = 0; k < x.count(3); k++) {
            text.append("way ").append(x.way(k)).append(' ');
        }
        return x.count(3) == NONE ? text.toString() : text.append("played ").append(x.play(x.count(3))).toString();
    }
}
