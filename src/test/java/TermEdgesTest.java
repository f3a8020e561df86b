/** The sentences of the document's "Terms" that name a boundary case, each with a test of its own. */
public final class TermEdgesTest {
    private static final int NONE = NetUnfolder.NONE;
    private static final int UNSAFE = NetUnfolder.UNSAFE;

    public static void main(String[] args) {
        firstAndLastPlace();
        eightTransitions();
        smallestAndLargestPreset();
        smallestAndLargestPostset();
        enabledByAllOfThePreset();
        firingAPlaceOfBothSets();
        conditionsOfTheFirstMarking();
        causes();
        twoDifferentConditions();
        noTwoTakeOneCondition();
        noneTakesOneOfTheTwo();
        markingOfCutOff();
        notThereYet();
        rankByNumberOfCauses();
        rankByTheLesserFirst();
        leastTransition();
        leastConditionsFromTheFront();
        leastConditionsByRisingPlaces();
        rivalWhichItDoesNotTake();
        rivalConcurrentWithAllThatItTakes();
        leastRival();
        wayByNumberItselfLast();
        shortestWayOfUnsafe();
        longWayOfUnsafe();
        notSafeThoughACutOff();
        cutOffToTheFirstMarking();
        cutOffByLesserRankOnly();
        cutOffMakesNothing();
        wholeAtOnce();
        questionForTheFirstMarking();
        questionWithoutCutOffs();
        questionByEventZeroFirst();
        questionWithTwoMakers();
        longWayOfAQuestion();
        the512thCall();
        Checks.end();
    }

    private static void firstAndLastPlace() {
        Checks.about("PLACES 0 .. 7 .. sets of places are bits");
        NetUnfolder x = Expect.unfolded(1, 128, 128, 1);
        Checks.same("the last place", x.condition(0, 0), 7);
        Checks.same("the first place", x.condition(1, 0), 0);
        Expect.eventIs(x, 0, 0, 1, 1, 0);
        Checks.same("reach(1)", x.reach(1), 1);
        Checks.same("reach(128)", x.reach(128), 0);
        Checks.same("reach(129)", x.reach(129), NONE);
        NetUnfolder back = Expect.unfolded(1, 1, 1, 128);
        Checks.same("reach(128), back", back.reach(128), 1);
        Checks.same("reach(129), back", back.reach(129), NONE);
    }

    private static void eightTransitions() {
        Checks.about("at most 8 TRANSITIONS 0, 1, ..");
        NetUnfolder x = Expect.unfolded(8, 255, 1, 0, 2, 0, 4, 0, 8, 0, 16, 0, 32, 0, 64, 0, 128, 0);
        for (int t = 0; t < 8; t++) {
            Expect.eventIs(x, t, t, 1, 255 & ~(1 << t), 0);
        }
        Checks.same("all of them", x.deadlock(), 8);
        Expect.wayIs(x, 0, 1, 2, 3, 4, 5, 6, 7);
        Checks.same("nothing is left", x.play(8), 0);
        Expect.refusedState(x, "a ninth", () -> x.transition(1, 0));
    }

    private static void smallestAndLargestPreset() {
        Checks.about("a PRESET (at least one place)");
        Expect.takesAre(Expect.unfolded(1, 255, 1, 0), 0, 0);
        Expect.takesAre(Expect.unfolded(1, 255, 128, 0), 0, 7);
        Expect.takesAre(Expect.unfolded(1, 255, 255, 0), 0, 0, 1, 2, 3, 4, 5, 6, 7);
        NetUnfolder x = new NetUnfolder();
        Expect.refusedArgument(x, "no place", () -> x.transition(0, 1));
    }

    private static void smallestAndLargestPostset() {
        Checks.about("a POSTSET of places");
        NetUnfolder none = Expect.unfolded(1, 1, 1, 0);
        Expect.eventIs(none, 0, 0, 1, 0, 0);
        Checks.same("it makes nothing", none.count(1), 1);
        NetUnfolder all = Expect.unfolded(UNSAFE, 1, 1, 255);
        Expect.eventIs(all, 0, 0, 1, 255, 0);
        Checks.same("it makes eight", all.count(1), 9);
        for (int p = 0; p < 8; p++) {
            Checks.same("by rising places", all.condition(p + 1, 0), p);
        }
        NetUnfolder same = Expect.unfolded(1, 255, 255, 255);
        Expect.eventIs(same, 0, 0, 1, 255, 1);
    }

    private static void enabledByAllOfThePreset() {
        Checks.about("A MARKING m ENABLES t if all places of its preset are in m");
        Expect.unfolded(1, 255, 255, 1);
        for (int p = 0; p < 8; p++) {
            NetUnfolder x = Expect.unfolded(0, 255 & ~(1 << p), 255, 1);
            Checks.same("nothing can happen without place " + p, x.deadlock(), 0);
        }
    }

    private static void firingAPlaceOfBothSets() {
        Checks.about("m becomes m without the preset, with the postset");
        NetUnfolder x = Expect.unfolded(1, 7, 3, 1);
        Expect.eventIs(x, 0, 0, 1, 5, 0);
        Checks.same("a new condition of the old place", x.condition(3, 0), 0);
        Checks.same("reach", x.reach(5), 1);
        Checks.same("play", x.play(1), 5);
    }

    private static void conditionsOfTheFirstMarking() {
        Checks.about("there is one for each place of the first marking, by rising places");
        Checks.same("none", Expect.unfolded(0, 0).count(1), 0);
        NetUnfolder all = Expect.unfolded(0, 255);
        Checks.same("all", all.count(1), 8);
        for (int p = 0; p < 8; p++) {
            Checks.same("place of condition " + p, all.condition(p, 0), p);
            Checks.same("no event made it", all.condition(p, 1), NONE);
        }
        NetUnfolder ends = Expect.unfolded(0, 129);
        Checks.same("first", ends.condition(0, 0), 0);
        Checks.same("last", ends.condition(1, 0), 7);
    }

    private static void causes() {
        Checks.about("The CAUSES of an event are itself and those of the events that made what it takes");
        NetUnfolder chain = Expect.unfolded(3, 1, 1, 2, 2, 4, 4, 8);
        for (int e = 0; e < 3; e++) {
            Checks.same("causes of event " + e, chain.event(e, 1), e + 1);
        }
        // A cause that both conditions have counts once.
        NetUnfolder diamond = Expect.unfolded(4, 1, 1, 6, 2, 8, 4, 16, 24, 32);
        Checks.same("causes of the last event", diamond.event(3, 1), 4);
    }

    private static void twoDifferentConditions() {
        Checks.about("Two different conditions are CONCURRENT");
        NetUnfolder x = Expect.unfolded(0, 255);
        for (int c = 0; c < 8; c++) {
            for (int d = 0; d < 8; d++) {
                Checks.that("first conditions " + c + " " + d, x.concurrent(c, d) == (c != d));
            }
        }
    }

    private static void noTwoTakeOneCondition() {
        Checks.about("the causes of both together are sound: no two of them take one condition");
        NetUnfolder x = Expect.unfolded(3, 1, 1, 2, 1, 4, 2, 8);
        Checks.that("behind either event", !x.concurrent(1, 2));
        Checks.that("behind what is behind it", !x.concurrent(3, 2) && !x.concurrent(2, 3));
        Checks.same("no set has both", x.reach(6), NONE);
        Checks.same("nor both with what is behind one of them", x.reach(12), NONE);
    }

    private static void noneTakesOneOfTheTwo() {
        Checks.about("and none of these takes one of the two");
        NetUnfolder x = Expect.unfolded(2, 1, 1, 6, 2, 8);
        Checks.that("taken by its maker", !x.concurrent(0, 1));
        Checks.that("taken by a cause of its maker", !x.concurrent(0, 3));
        Checks.that("made together", x.concurrent(1, 2));
        Checks.that("taken", !x.concurrent(1, 3));
        Checks.that("not taken", x.concurrent(2, 3));
    }

    private static void markingOfCutOff() {
        Checks.about("of an event that comes, and of a cut-off, the conditions that it would make count as made");
        Expect.eventIs(Expect.unfolded(1, 1, 1, 1), 0, 0, 1, 1, 1);
        NetUnfolder x = Expect.unfolded(2, 3, 1, 4, 1, 4);
        Expect.eventIs(x, 0, 0, 1, 6, 0);
        Expect.eventIs(x, 1, 1, 1, 6, 1);
    }

    private static void notThereYet() {
        Checks.about("A POSSIBLE event .. which is not there yet");
        Expect.unfolded(1, 1, 1, 0);
        Expect.unfolded(1, 1, 1, 1);
        // Two transitions that are alike have an event each.
        NetUnfolder x = Expect.unfolded(2, 1, 1, 0, 1, 0);
        Checks.same("transition of event 1", x.event(1, 0), 1);
        Checks.same("takers", x.condition(0, 2), 2);
    }

    private static void rankByNumberOfCauses() {
        Checks.about("The RANK of an event: how many causes it has");
        NetUnfolder x = Expect.unfolded(3, 3, 4, 8, 1, 4, 2, 16);
        int[] due = {1, 2, 0};
        for (int e = 0; e < 3; e++) {
            Checks.same("transition of event " + e, x.event(e, 0), due[e]);
        }
    }

    private static void rankByTheLesserFirst() {
        Checks.about("then the transitions of its causes, the lesser first (compared from the front)");
        // The rows are 0 3 and 1 2: transition 3 comes before transition 2.
        NetUnfolder front = Expect.unfolded(4, 3, 1, 4, 2, 8, 8, 16, 4, 32);
        Checks.same("transition of event 2", front.event(2, 0), 3);
        Checks.same("transition of event 3", front.event(3, 0), 2);
        // The rows are 0 1 4 and 0 2 3: transition 4 comes before transition 3.
        NetUnfolder second = Expect.unfolded(5, 1, 1, 6, 2, 8, 4, 16, 16, 32, 8, 64);
        Checks.same("transition of event 3", second.event(3, 0), 4);
        Checks.same("transition of event 4", second.event(4, 0), 3);
    }

    private static void leastTransition() {
        Checks.about("of these the one of the least transition");
        NetUnfolder x = Expect.sharedLoop();
        Expect.takesAre(x, 2, 4, 1);
        Checks.same("the lesser transition", x.event(2, 0), 0);
        Expect.takesAre(x, 3, 3, 2);
        Checks.same("the greater transition", x.event(3, 0), 1);
    }

    private static void leastConditionsFromTheFront() {
        Checks.about("of these the one whose conditions, by rising places, are least (compared from the front)");
        // Places 0 and 1 are made in either order: by events 0 and 3, or by 2 and 1.
        NetUnfolder front = Expect.unfolded(6, 140, 132, 129, 136, 130, 3, 32);
        Expect.eventIs(front, 4, 2, 3, 160, 0);
        Expect.eventIs(front, 5, 2, 3, 160, 0);
        Expect.takesAre(front, 4, 3, 9);
        Expect.takesAre(front, 5, 7, 5);
        // The last place alone decides.
        NetUnfolder last = Expect.unfolded(20, 29, 5, 1, 17, 129, 128, 32, 9, 1);
        Expect.eventIs(last, 18, 2, 4, 33, 0);
        Expect.eventIs(last, 19, 2, 4, 33, 0);
        Expect.takesAre(last, 18, 21);
        Expect.takesAre(last, 19, 23);
    }

    private static void leastConditionsByRisingPlaces() {
        Checks.about("of these the one whose conditions, by rising places, are least: not by rising numbers");
        NetUnfolder x = Expect.unfolded(6, 134, 130, 144, 132, 136, 24, 32);
        Expect.takesAre(x, 4, 5, 7);
        Expect.takesAre(x, 5, 9, 3);
    }

    private static void rivalWhichItDoesNotTake() {
        Checks.about("a condition of a place of its postset which it does not take");
        Expect.unfolded(1, 3, 1, 1);
        Expect.unfolded(1, 7, 3, 1);
        Expect.wayIs(Expect.unfolded(UNSAFE, 7, 3, 4), 0);
        Expect.wayIs(Expect.unfolded(UNSAFE, 7, 3, 5), 0);
    }

    private static void rivalConcurrentWithAllThatItTakes() {
        Checks.about("and which is concurrent with all that it takes");
        NetUnfolder x = Expect.unfolded(2, 3, 2, 4, 3, 4);
        Expect.eventIs(x, 0, 0, 1, 5, 0);
        Expect.eventIs(x, 1, 1, 1, 4, 0);
        Checks.that("concurrent with one of the two", x.concurrent(0, 2) && !x.concurrent(1, 2));
    }

    private static void leastRival() {
        Checks.about("(the least such one)");
        // Event 0 makes place 6 and event 1 place 5: the rival is of place 6.
        Expect.wayIs(Expect.unfolded(UNSAFE, 14, 2, 64, 4, 32, 8, 96), 0, 2);
        // Two rivals that are there first.
        Expect.wayIs(Expect.unfolded(UNSAFE, 7, 1, 6), 0);
        // The least of all conditions, and the last one.
        Expect.wayIs(Expect.unfolded(UNSAFE, 3, 2, 1), 0);
        Expect.wayIs(Expect.unfolded(UNSAFE, 3, 1, 2), 0);
    }

    private static void wayByNumberItselfLast() {
        Checks.about("the causes of that condition, by number, and those of the event .., itself last, are the WAY");
        Expect.wayIs(Expect.unfolded(UNSAFE, 3, 2, 8, 1, 4, 8, 4), 1, 0, 2);
        NetUnfolder shared = Expect.unfolded(UNSAFE, 1, 1, 6, 2, 8, 4, 16, 16, 8);
        Expect.wayIs(shared, 0, 1, 2, 3);
        Checks.same("nothing has come", shared.count(0), 3);
    }

    private static void shortestWayOfUnsafe() {
        Checks.about("Nothing comes then");
        NetUnfolder x = Expect.unfolded(UNSAFE, 3, 1, 2);
        Expect.wayIs(x, 0);
        Checks.same("no event", x.count(0), 0);
        Checks.same("what was there first", x.count(1), 2);
        Checks.same("taken by none", x.condition(0, 2), 0);
        Checks.same("played", x.play(1), 2);
    }

    private static void longWayOfUnsafe() {
        Checks.about("the WAY: a long one");
        int[] sets = {128, 16, 112, 138, 18, 160, 57, 198, 60, 199, 109, 44};
        NetUnfolder x = Expect.unfolded(UNSAFE, 195, sets);
        Checks.same("how long", x.count(3), 24);
        playedStepByStep(x, 195, sets);
    }

    /** Each step of the way is enabled, and play answers the marking behind it. */
    private static void playedStepByStep(NetUnfolder x, int first, int[] sets) {
        int marking = first;
        int length = x.count(3);
        for (int k = 0; k < length; k++) {
            int t = x.way(k);
            Checks.same("play " + k, x.play(k), marking);
            Checks.same("enabled " + k, marking & sets[2 * t], sets[2 * t]);
            marking = marking & ~sets[2 * t] | sets[2 * t + 1];
        }
        Checks.same("play all", x.play(length), marking);
    }

    private static void notSafeThoughACutOff() {
        Checks.about("Before it comes: .. the net is NOT SAFE, even where the event would be a cut-off");
        NetUnfolder toFirst = Expect.unfolded(UNSAFE, 3, 1, 3);
        Checks.same("no event", toFirst.count(0), 0);
        Expect.wayIs(toFirst, 0);
        NetUnfolder toEarlier = Expect.unfolded(UNSAFE, 5, 1, 2, 1, 6);
        Checks.same("one event", toEarlier.count(0), 1);
        Expect.wayIs(toEarlier, 1);
    }

    private static void cutOffToTheFirstMarking() {
        Checks.about("It is a CUT-OFF if the marking of its causes is the first marking");
        Expect.eventIs(Expect.unfolded(1, 3, 3, 3), 0, 0, 1, 3, 1);
        Expect.eventIs(Expect.unfolded(2, 1, 1, 2, 2, 1), 1, 1, 2, 1, 1);
    }

    private static void cutOffByLesserRankOnly() {
        Checks.about("or that of the causes of an earlier event whose rank is less");
        Expect.eventIs(Expect.unfolded(2, 1, 1, 2, 1, 2), 1, 1, 1, 2, 1);
        NetUnfolder same = Expect.sharedLoop();
        Expect.eventIs(same, 2, 0, 2, 1, 0);
        Expect.eventIs(same, 3, 1, 2, 1, 0);
        Checks.same("both make a condition", same.count(1), 7);
    }

    private static void cutOffMakesNothing() {
        Checks.about("A cut-off makes no conditions; others make one for each place of their postset");
        NetUnfolder x = Expect.unfolded(2, 1, 1, 6, 1, 6);
        Checks.same("conditions", x.count(1), 3);
        Checks.same("cut-offs", x.count(2), 1);
        Checks.same("place of condition 1", x.condition(1, 0), 1);
        Checks.same("place of condition 2", x.condition(2, 0), 2);
        Checks.same("the cut-off takes all the same", x.condition(0, 2), 2);
    }

    private static void wholeAtOnce() {
        Checks.about("When nothing is possible the prefix is WHOLE");
        NetUnfolder noNet = Expect.unfolded(0, 0);
        Checks.same("reach without a net", noNet.reach(0), 0);
        NetUnfolder noTransition = Expect.unfolded(0, 255);
        Checks.same("reach without transitions", noTransition.reach(255), 0);
        NetUnfolder noToken = Expect.unfolded(0, 0, 1, 2);
        Checks.same("reach without tokens", noToken.reach(0), 0);
        Checks.same("deadlock without tokens", noToken.deadlock(), 0);
    }

    private static void questionForTheFirstMarking() {
        Checks.about("A QUESTION: the empty set comes before all others");
        NetUnfolder x = Expect.unfolded(2, 1, 1, 2, 2, 1);
        Checks.same("reach(1)", x.reach(1), 0);
        Expect.wayIs(x);
        Checks.same("play(0)", x.play(0), 1);
    }

    private static void questionWithoutCutOffs() {
        Checks.about("of all sound sets of events that are not cut-offs");
        NetUnfolder x = Expect.unfolded(2, 1, 1, 2, 1, 2);
        Checks.same("reach(2)", x.reach(2), 1);
        Expect.wayIs(x, 0);
        Checks.same("deadlock", x.deadlock(), 1);
        Expect.wayIs(x, 0);
    }

    private static void questionByEventZeroFirst() {
        Checks.about("compared by event 0 first, then 1, .. (without it is before with it)");
        NetUnfolder longer = Expect.togetherOrApart();
        Checks.same("without event 0, though longer", longer.reach(12), 2);
        Expect.wayIs(longer, 1, 2);
        NetUnfolder loop = Expect.sharedLoop();
        Checks.same("events 1 and 2, not 0 and 3", loop.reach(1), 2);
        Expect.wayIs(loop, 1, 0);
    }

    private static void questionWithTwoMakers() {
        Checks.about("The marking of a sound set: a place that one event or another has made");
        NetUnfolder x = Expect.unfolded(2, 1, 1, 10, 1, 12);
        Checks.same("by event 0", x.reach(10), 1);
        Expect.wayIs(x, 0);
        Checks.same("by event 1", x.reach(12), 1);
        Expect.wayIs(x, 1);
        Checks.same("by none", x.reach(8), NONE);
    }

    private static void longWayOfAQuestion() {
        Checks.about("Its transitions, by the events' numbers, are the way: a long one");
        int[] sets = {106, 51, 3, 10, 12, 65, 58, 23, 216, 37, 88, 1, 255, 25};
        NetUnfolder x = Expect.unfolded(23, 167, sets);
        int longest = 0;
        for (int m = 0; m < 256; m++) {
            int length = x.reach(m);
            longest = Math.max(longest, length);
            if (length == 21) {
                playedStepByStep(x, 167, sets);
                Checks.same("played to the marking asked for", x.play(21), m);
            }
        }
        Checks.same("the longest", longest, 21);
    }

    private static void the512thCall() {
        Checks.about("An object is used for at most 512 calls");
        NetUnfolder x = Expect.net(3, 3, 12, 1, 4, 2, 8);
        x.unfold();
        for (int call = 6; call < 512; call += 2) {
            Checks.same("reach", x.reach(call % 4 == 0 ? 12 : 6), call % 4 == 0 ? 2 : 1);
            Checks.same("way", x.way(0), 1);
        }
        Checks.same("the 512th call", x.deadlock(), 2);
    }
}
