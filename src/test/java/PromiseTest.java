/** Each promise of the document by itself: ordinary inputs, the edges it names, wrong inputs. */
public final class PromiseTest {
    private static final int NONE = NetUnfolder.NONE;
    private static final int UNSAFE = NetUnfolder.UNSAFE;
    private static final int ROOM = NetUnfolder.ROOM;

    public static void main(String[] args) {
        promise1NewObject();
        promise2Transition();
        promise2WrongInputs();
        promise3First();
        promise4Clear();
        promise5WholePrefix();
        promise5OrderOfEvents();
        promise5CutOffs();
        promise5Unsafe();
        promise5WayOfUnsafe();
        promise5Room();
        promise5Again();
        promise6Reach();
        promise6FirstOfTheSets();
        promise6WrongInputs();
        promise7Deadlock();
        promise8Way();
        promise9Play();
        promise10Count();
        promise11Event();
        promise12Takes();
        promise13Condition();
        promise14Concurrent();
        Checks.end();
    }

    private static void promise1NewObject() {
        NetUnfolder x = new NetUnfolder();
        Expect.noPrefix(x);
        Checks.same("unfold of the empty net", x.unfold(), 0);
        Checks.same("its conditions", x.count(1), 0);
        Checks.same("reach(0)", x.reach(0), 0);
        Checks.same("play(0)", x.play(0), 0);
        Checks.same("reach(1)", x.reach(1), NONE);
        Checks.same("deadlock", x.deadlock(), 0);
        Expect.wayIs(x);
        Checks.same("the first transition's number", x.transition(1, 1), 0);
    }

    private static void promise2Transition() {
        NetUnfolder x = new NetUnfolder();
        x.first(1);
        for (int t = 0; t < 8; t++) {
            Checks.same("number of a transition", x.transition(1, 2), t);
        }
        x.unfold();
        x.reach(2);
        Checks.badState("a ninth transition", () -> x.transition(1, 2));
        Checks.badArgument("a ninth one that is wrong", () -> x.transition(0, 2));
        Checks.same("the prefix stays", x.count(0), 8);
        Expect.wayIs(x, 0);
        NetUnfolder y = Expect.unfolded(1, 1, 1, 2);
        y.reach(2);
        Checks.same("one more", y.transition(255, 255), 1);
        Expect.noPrefix(y);
        Checks.same("an empty postset", y.transition(2, 0), 2);
        Checks.same("unfold with it", y.unfold(), 2);
        Checks.same("its marking", y.event(1, 2), 0);
    }

    private static void promise2WrongInputs() {
        NetUnfolder x = Expect.unfolded(1, 1, 1, 2);
        x.reach(2);
        int[] presets = {0, -1, 256, 257, Integer.MIN_VALUE, Integer.MAX_VALUE};
        for (int preset : presets) {
            Checks.badArgument("preset " + preset, () -> x.transition(preset, 1));
        }
        int[] postsets = {-1, 256, 257, Integer.MIN_VALUE, Integer.MAX_VALUE};
        for (int postset : postsets) {
            Checks.badArgument("postset " + postset, () -> x.transition(1, postset));
        }
        Checks.same("the prefix stays", x.count(0), 1);
        Expect.wayIs(x, 0);
        Checks.same("none was added", x.transition(1, 0), 1);
    }

    private static void promise3First() {
        NetUnfolder x = Expect.unfolded(1, 1, 1, 2);
        x.reach(2);
        int[] wrong = {-1, 256, Integer.MIN_VALUE, Integer.MAX_VALUE};
        for (int m : wrong) {
            Checks.badArgument("first " + m, () -> x.first(m));
        }
        Checks.same("the prefix stays", x.count(0), 1);
        Expect.wayIs(x, 0);
        Checks.same("the first marking stays", x.play(0), 1);
        x.first(1);
        Expect.noPrefix(x);
        x.first(4);
        Checks.same("unfold of another marking", x.unfold(), 0);
        Checks.same("place of its condition", x.condition(0, 0), 2);
        x.first(255);
        Checks.same("unfold of all places: not safe", x.unfold(), UNSAFE);
        Checks.same("conditions of all places", x.count(1), 8);
        x.first(0);
        Checks.same("unfold of no places", x.unfold(), 0);
        Checks.same("no conditions", x.count(1), 0);
    }

    private static void promise4Clear() {
        NetUnfolder x = Expect.unfolded(1, 1, 1, 2);
        x.reach(2);
        x.clear();
        Expect.noPrefix(x);
        Checks.same("unfold of what is left", x.unfold(), 0);
        Checks.same("no first marking is left", x.count(1), 0);
        Checks.same("no transition is left", x.transition(4, 8), 0);
        x.first(4);
        Checks.same("unfold of the new net", x.unfold(), 1);
        Checks.same("marking of its event", x.event(0, 2), 8);
        NetUnfolder y = Expect.unfolded(UNSAFE, 1, 1, 3);
        y.clear();
        Expect.noPrefix(y);
    }

    private static void promise5WholePrefix() {
        Expect.unfolded(0, 0, 1, 2);
        Expect.unfolded(0, 1, 3, 4);
        NetUnfolder x = Expect.unfolded(4, 1, 1, 6, 2, 8, 4, 16, 24, 1);
        Expect.eventIs(x, 0, 0, 1, 6, 0);
        Expect.eventIs(x, 1, 1, 2, 12, 0);
        Expect.eventIs(x, 2, 2, 2, 18, 0);
        Expect.eventIs(x, 3, 3, 4, 1, 1);
        Expect.takesAre(x, 3, 3, 4);
        Checks.same("conditions", x.count(1), 5);
        Checks.same("cut-offs", x.count(2), 1);
        Expect.noWay(x);
        Expect.unfolded(30, 255, 3, 1, 5, 1, 9, 1, 48, 16, 80, 16, 144, 16);
        NetUnfolder y = Expect.unfolded(21, 243, 125, 3, 161, 160, 172, 168, 194, 130, 34, 44);
        Checks.same("as many conditions as there may be", y.count(1), 60);
        // A cut-off comes when the conditions that it would make would have no room.
        NetUnfolder z = Expect.unfolded(26, 221, 153, 145, 88, 26, 69, 65, 122, 216, 137, 9, 72, 96, 30, 112);
        Checks.same("as many conditions, then a cut-off", z.count(1), 60);
    }

    private static void promise5OrderOfEvents() {
        NetUnfolder byTransition = Expect.unfolded(2, 3, 2, 8, 1, 4);
        Expect.takesAre(byTransition, 0, 1);
        Expect.takesAre(byTransition, 1, 0);
        // Both orders of the two transitions have the same rank: the lesser last transition comes first.
        NetUnfolder byLast = Expect.sharedLoop();
        Expect.eventIs(byLast, 2, 0, 2, 1, 0);
        Expect.takesAre(byLast, 2, 4, 1);
        Expect.eventIs(byLast, 3, 1, 2, 1, 0);
        Expect.takesAre(byLast, 3, 3, 2);
        // Behind both orders the same transition: the lesser condition comes first.
        NetUnfolder byConditions = Expect.unfolded(9, 7, 3, 1, 5, 1, 1, 8);
        Expect.eventIs(byConditions, 7, 2, 3, 8, 0);
        Expect.takesAre(byConditions, 7, 6);
        Expect.eventIs(byConditions, 8, 2, 3, 8, 0);
        Expect.takesAre(byConditions, 8, 7);
        // The row 0 3 is before the row 1 2, though the event's own transition is greater.
        NetUnfolder byRow = Expect.unfolded(5, 5, 1, 2, 4, 8, 8, 16, 2, 32, 40, 64);
        Expect.eventIs(byRow, 2, 3, 2, 36, 0);
        Expect.eventIs(byRow, 3, 2, 2, 17, 0);
        // Four causes come behind two, though their row begins with less.
        Expect.eventIs(byRow, 4, 4, 4, 64, 0);
        Expect.takesAre(byRow, 4, 3, 4);
    }

    private static void promise5CutOffs() {
        NetUnfolder toFirst = Expect.unfolded(1, 1, 1, 1);
        Expect.eventIs(toFirst, 0, 0, 1, 1, 1);
        Checks.same("it makes nothing", toFirst.count(1), 1);
        NetUnfolder toEarlier = Expect.unfolded(2, 1, 1, 2, 1, 2);
        Expect.eventIs(toEarlier, 0, 0, 1, 2, 0);
        Expect.eventIs(toEarlier, 1, 1, 1, 2, 1);
        Checks.same("one of them makes nothing", toEarlier.count(1), 2);
        NetUnfolder sameRank = Expect.sharedLoop();
        Checks.same("events of one rank are no cut-offs of each other", sameRank.count(2), 0);
        Checks.same("each makes its condition", sameRank.count(1), 7);
        NetUnfolder behind = Expect.unfolded(5, 1, 1, 2, 1, 4, 2, 8, 4, 8, 8, 1);
        Expect.eventIs(behind, 3, 3, 2, 8, 1);
        Expect.eventIs(behind, 4, 4, 3, 1, 1);
    }

    private static void promise5Unsafe() {
        NetUnfolder x = Expect.unfolded(UNSAFE, 1, 1, 3);
        Checks.same("events before", x.count(0), 1);
        Checks.same("conditions before", x.count(1), 3);
        Expect.eventIs(x, 0, 0, 1, 3, 0);
        Checks.that("concurrent before", x.concurrent(1, 2));
        Checks.badState("reach", () -> x.reach(3));
        Checks.badState("deadlock", x::deadlock);
        Expect.wayIs(x, 0, 0);
        Checks.same("it can be played", x.play(2), 3);
        NetUnfolder atOnce = Expect.unfolded(UNSAFE, 3, 1, 2);
        Checks.same("nothing has come", atOnce.count(0), 0);
        Expect.wayIs(atOnce, 0);
        Checks.same("played", atOnce.play(1), 2);
        // What is taken and made again is no rival, and neither is what is in conflict or a cause.
        Expect.unfolded(1, 3, 1, 1);
        Expect.unfolded(2, 1, 1, 6, 1, 2);
        Expect.unfolded(2, 1, 1, 2, 2, 1);
    }

    private static void promise5WayOfUnsafe() {
        // The rival's causes come first, even where their numbers are greater.
        Expect.wayIs(Expect.unfolded(UNSAFE, 3, 1, 4, 2, 8, 8, 4), 0, 1, 2);
        Expect.wayIs(Expect.unfolded(UNSAFE, 3, 2, 8, 1, 4, 8, 4), 1, 0, 2);
        // Of two rivals the lesser condition counts, not the lesser place.
        Expect.wayIs(Expect.unfolded(UNSAFE, 14, 2, 64, 4, 32, 8, 96), 0, 2);
        // What the rival and the event have both as causes is told once.
        Expect.wayIs(Expect.unfolded(UNSAFE, 1, 1, 6, 2, 8, 4, 16, 16, 8), 0, 1, 2, 3);
        // The event for which there would be no room does not come, since the net is not safe.
        NetUnfolder x = Expect.unfolded(UNSAFE, 7, 7, 197, 4, 8, 6, 68, 4, 40, 8, 20, 8, 4);
        Checks.same("as many events as there may be", x.count(0), 30);
        Expect.wayIs(x, 3, 4, 3);
        // As many events are possible as may be, none too many.
        Expect.unfolded(UNSAFE, 199, 65, 1, 6, 4, 5, 33, 1, 17, 132, 36, 5, 13, 1, 25, 5, 37);
    }

    private static void promise5Room() {
        // One event, one condition and one possible event more than may be.
        Expect.noPrefix(Expect.unfolded(ROOM, 15, 10, 2, 2, 16, 6, 2, 17, 130, 157, 8));
        Expect.noPrefix(Expect.unfolded(ROOM, 191, 59, 43, 46, 108, 46, 78, 250, 20, 29, 28, 157, 13));
        Expect.noPrefix(Expect.unfolded(ROOM, 178, 48, 32, 130, 2, 34, 3, 32, 40, 34, 35, 2, 6, 2, 70, 34, 99));
        NetUnfolder x = Expect.unfolded(ROOM, 31, 3, 1, 5, 1, 9, 1, 17, 1);
        Expect.noPrefix(x);
        Checks.same("again", x.unfold(), ROOM);
        x.first(15);
        Checks.same("with one place less", x.unfold(), 15);
    }

    private static void promise5Again() {
        NetUnfolder x = Expect.togetherOrApart();
        x.reach(12);
        Checks.same("unfold again", x.unfold(), 3);
        Checks.same("events again", x.count(0), 3);
        Checks.same("conditions again", x.count(1), 6);
        Checks.same("takers again", x.condition(0, 2), 2);
        // Nothing is said of losing the way when the prefix is whole.
        Expect.wayIs(x, 1, 2);
        NetUnfolder y = Expect.unfolded(UNSAFE, 1, 1, 3);
        Checks.same("unfold again", y.unfold(), UNSAFE);
        Expect.wayIs(y, 0, 0);
        Checks.same("conditions again", y.count(1), 3);
    }

    private static void promise6Reach() {
        NetUnfolder x = Expect.unfolded(4, 1, 1, 6, 2, 8, 4, 16, 24, 1);
        Checks.same("reach(24)", x.reach(24), 3);
        Expect.wayIs(x, 0, 1, 2);
        Checks.same("reach(18)", x.reach(18), 2);
        Expect.wayIs(x, 0, 2);
        Checks.same("the first marking", x.reach(1), 0);
        Expect.wayIs(x);
        Checks.same("play nothing", x.play(0), 1);
        Checks.same("more than can be", x.reach(25), NONE);
        Expect.noWay(x);
        x.reach(6);
        Checks.same("less than can be", x.reach(0), NONE);
        Expect.noWay(x);
        // A marking behind cut-offs only is reached elsewhere.
        NetUnfolder y = Expect.unfolded(5, 1, 1, 2, 1, 4, 2, 8, 4, 8, 8, 1);
        Checks.same("reach(8)", y.reach(8), 2);
        Expect.wayIs(y, 0, 2);
        NetUnfolder z = Expect.unfolded(2, 3, 1, 0, 2, 0);
        Checks.same("no token left", z.reach(0), 2);
        Expect.wayIs(z, 0, 1);
    }

    private static void promise6FirstOfTheSets() {
        NetUnfolder apart = Expect.togetherOrApart();
        Checks.same("without event 0, though longer", apart.reach(12), 2);
        Expect.wayIs(apart, 1, 2);
        NetUnfolder loop = Expect.sharedLoop();
        Checks.same("of two orders", loop.reach(1), 2);
        Expect.wayIs(loop, 1, 0);
    }

    private static void promise6WrongInputs() {
        NetUnfolder x = Expect.togetherOrApart();
        x.reach(12);
        int[] wrong = {-1, 256, Integer.MIN_VALUE, Integer.MAX_VALUE};
        for (int m : wrong) {
            Checks.badArgument("reach " + m, () -> x.reach(m));
        }
        Expect.wayIs(x, 1, 2);
        Checks.same("reach(255)", x.reach(255), NONE);
        NetUnfolder fresh = new NetUnfolder();
        Checks.badState("without a prefix", () -> fresh.reach(0));
        Checks.badArgument("without a prefix, and wrong", () -> fresh.reach(256));
        NetUnfolder unsafe = Expect.unfolded(UNSAFE, 1, 1, 3);
        Checks.badState("not safe", () -> unsafe.reach(1));
        Checks.badArgument("not safe, and wrong", () -> unsafe.reach(-1));
        Expect.wayIs(unsafe, 0, 0);
    }

    private static void promise7Deadlock() {
        NetUnfolder x = Expect.unfolded(1, 1, 1, 2);
        Checks.same("deadlock", x.deadlock(), 1);
        Expect.wayIs(x, 0);
        Checks.same("played", x.play(1), 2);
        NetUnfolder circle = Expect.unfolded(2, 1, 1, 2, 2, 1);
        circle.reach(2);
        Checks.same("no deadlock", circle.deadlock(), NONE);
        Expect.noWay(circle);
        NetUnfolder still = Expect.unfolded(0, 1, 3, 4);
        Checks.same("nothing can ever happen", still.deadlock(), 0);
        Expect.wayIs(still);
        NetUnfolder apart = Expect.togetherOrApart();
        Checks.same("the first of the sets", apart.deadlock(), 2);
        Expect.wayIs(apart, 1, 2);
        // Two that each take one of two things and then want the other.
        NetUnfolder forks = Expect.unfolded(4, 15, 5, 16, 10, 32, 24, 13, 36, 14);
        Checks.same("both have one", forks.deadlock(), 2);
        Expect.wayIs(forks, 0, 1);
        Checks.same("their marking", forks.play(2), 48);
        NetUnfolder unsafe = Expect.unfolded(UNSAFE, 1, 1, 3);
        Checks.badState("not safe", unsafe::deadlock);
        Expect.wayIs(unsafe, 0, 0);
        Checks.badState("without a prefix", () -> new NetUnfolder().deadlock());
    }

    private static void promise8Way() {
        NetUnfolder x = Expect.togetherOrApart();
        Checks.same("without a way", x.way(0), NONE);
        x.reach(12);
        Checks.same("way(0)", x.way(0), 1);
        Checks.same("way(1)", x.way(1), 2);
        int[] none = {-1, 2, 31, 1000, Integer.MIN_VALUE, Integer.MAX_VALUE};
        for (int k : none) {
            Checks.same("way " + k, x.way(k), NONE);
        }
        x.reach(6);
        Expect.wayIs(x, 1);
    }

    private static void promise9Play() {
        NetUnfolder x = Expect.unfolded(4, 1, 1, 6, 2, 8, 4, 16, 24, 1);
        Checks.badState("no way", () -> x.play(0));
        Checks.badState("no way, so no length to be above", () -> x.play(9));
        Checks.badArgument("below 0 even without a way", () -> x.play(-1));
        x.reach(24);
        int[] markings = {1, 6, 12, 24};
        for (int n = 0; n < markings.length; n++) {
            Checks.same("play " + n, x.play(n), markings[n]);
        }
        int[] wrong = {-1, 4, Integer.MIN_VALUE, Integer.MAX_VALUE};
        for (int n : wrong) {
            Checks.badArgument("play " + n, () -> x.play(n));
        }
        Expect.wayIs(x, 0, 1, 2);
    }

    private static void promise10Count() {
        NetUnfolder x = Expect.net(7, 3, 1, 5, 1);
        Expect.noPrefix(x);
        x.unfold();
        Checks.same("events", x.count(0), 4);
        Checks.same("conditions", x.count(1), 7);
        Checks.same("cut-offs", x.count(2), 0);
        Checks.same("without a way", x.count(3), NONE);
        x.reach(7);
        Checks.same("an empty way", x.count(3), 0);
        int[] others = {-1, 4, Integer.MIN_VALUE, Integer.MAX_VALUE};
        for (int what : others) {
            Checks.same("count " + what, x.count(what), NONE);
            Checks.same("count without a prefix " + what, new NetUnfolder().count(what), NONE);
        }
        Checks.same("cut-offs", Expect.unfolded(5, 1, 1, 2, 1, 4, 2, 8, 4, 8, 8, 1).count(2), 2);
    }

    private static void promise11Event() {
        NetUnfolder x = Expect.unfolded(5, 3, 3, 12, 4, 1, 8, 2, 12, 3);
        Expect.eventIs(x, 0, 0, 1, 12, 0);
        Expect.eventIs(x, 1, 1, 2, 9, 0);
        Expect.eventIs(x, 2, 2, 2, 6, 0);
        Expect.eventIs(x, 3, 3, 2, 3, 1);
        Expect.eventIs(x, 4, 0, 4, 12, 1);
        int[] none = {-1, 5, 29, 30, Integer.MIN_VALUE, Integer.MAX_VALUE};
        for (int e : none) {
            Expect.eventIs(x, e, NONE, NONE, NONE, NONE);
        }
        int[] others = {-1, 4, Integer.MIN_VALUE, Integer.MAX_VALUE};
        for (int what : others) {
            Checks.same("event 0 " + what, x.event(0, what), NONE);
        }
    }

    private static void promise12Takes() {
        NetUnfolder x = Expect.sharedLoop();
        Expect.takesAre(x, 0, 0, 1);
        Expect.takesAre(x, 1, 0, 2);
        Expect.takesAre(x, 2, 4, 1);
        Expect.takesAre(x, 3, 3, 2);
        int[] none = {-1, 2, 8, 1000, Integer.MIN_VALUE, Integer.MAX_VALUE};
        for (int k : none) {
            Checks.same("takes 0 " + k, x.takes(0, k), NONE);
        }
        int[] noEvents = {-1, 4, 29, 30, Integer.MIN_VALUE, Integer.MAX_VALUE};
        for (int e : noEvents) {
            Checks.same("takes " + e + " 0", x.takes(e, 0), NONE);
        }
        Expect.takesAre(Expect.unfolded(1, 255, 255, 0), 0, 0, 1, 2, 3, 4, 5, 6, 7);
    }

    private static void promise13Condition() {
        NetUnfolder x = Expect.unfolded(5, 3, 3, 12, 4, 1, 8, 2, 12, 3);
        int[] places = {0, 1, 2, 3, 0, 1};
        int[] makers = {NONE, NONE, 0, 0, 1, 2};
        int[] takers = {1, 1, 2, 2, 1, 1};
        for (int c = 0; c < 6; c++) {
            Checks.same("place of " + c, x.condition(c, 0), places[c]);
            Checks.same("maker of " + c, x.condition(c, 1), makers[c]);
            Checks.same("takers of " + c, x.condition(c, 2), takers[c]);
        }
        int[] none = {-1, 6, 59, 60, Integer.MIN_VALUE, Integer.MAX_VALUE};
        for (int c : none) {
            for (int what = 0; what < 3; what++) {
                Checks.same("condition " + c + " " + what, x.condition(c, what), NONE);
            }
        }
        int[] others = {-1, 3, Integer.MIN_VALUE, Integer.MAX_VALUE};
        for (int what : others) {
            Checks.same("condition 0 " + what, x.condition(0, what), NONE);
        }
        NetUnfolder untaken = Expect.unfolded(0, 129);
        Checks.same("by rising places", untaken.condition(1, 0), 7);
        Checks.same("taken by none", untaken.condition(1, 2), 0);
    }

    private static void concurrentIs(NetUnfolder x, int c, int d, boolean due) {
        Checks.same("concurrent " + c + " " + d, x.concurrent(c, d) ? 1 : 0, due ? 1 : 0);
        Checks.same("concurrent " + d + " " + c, x.concurrent(d, c) ? 1 : 0, due ? 1 : 0);
    }

    private static void promise14Concurrent() {
        NetUnfolder x = Expect.unfolded(4, 1, 1, 6, 2, 8, 4, 16, 24, 1);
        concurrentIs(x, 1, 2, true);
        concurrentIs(x, 1, 4, true);
        concurrentIs(x, 3, 4, true);
        concurrentIs(x, 0, 1, false);
        concurrentIs(x, 0, 3, false);
        concurrentIs(x, 1, 3, false);
        NetUnfolder loop = Expect.sharedLoop();
        concurrentIs(loop, 0, 1, true);
        concurrentIs(loop, 3, 2, true);
        concurrentIs(loop, 3, 4, false);
        concurrentIs(loop, 5, 6, false);
        int[] none = {-1, 7, 60, Integer.MIN_VALUE, Integer.MAX_VALUE};
        for (int c : none) {
            concurrentIs(loop, 0, c, false);
            concurrentIs(loop, c, c, false);
        }
        for (int c = 0; c < 7; c++) {
            concurrentIs(loop, c, c, false);
        }
    }
}
