/**
 * "There may be at most 30 events and 60 conditions: if one more would come, there is NO ROOM; nor is
 * there when more than 200 events are possible (at the beginning, or when one has come)."
 *
 * <p>Each net stands exactly at the edge that its test is about: the plain model says so.
 */
public final class RoomTest {
    private static final int UNSAFE = NetUnfolder.UNSAFE;
    private static final int ROOM = NetUnfolder.ROOM;

    public static void main(String[] args) {
        thirtyEvents();
        thirtyEventsTheLastACutOff();
        oneEventMore();
        oneCutOffMore();
        oneEventMoreThatIsNotSafe();
        sixtyConditions();
        sixtyConditionsAndACutOff();
        sixtyConditionsAndAnEmptyPostset();
        aCutOffThatWouldMakeTooMany();
        oneConditionMore();
        severalConditionsMore();
        oneConditionMoreThatIsNotSafe();
        twoHundredPossible();
        oneMorePossible();
        oneMorePossibleAndNotSafe();
        mostAtTheBeginning();
        roomIsThereAgain();
        Checks.end();
    }

    /** A net as one row: its first marking, then preset and postset in turn. */
    private static PlainModel modelOf(int... row) {
        return withMoreRoom(0, 0, 0, row);
    }

    private static PlainModel withMoreRoom(int events, int conditions, int possible, int... row) {
        int[] preset = new int[row.length / 2];
        int[] postset = new int[row.length / 2];
        for (int t = 0; t < preset.length; t++) {
            preset[t] = row[2 * t + 1];
            postset[t] = row[2 * t + 2];
        }
        return new PlainModel(preset, postset, row[0], events, conditions, possible);
    }

    private static NetUnfolder unfoldedRow(int due, int... row) {
        int[] sets = new int[row.length - 1];
        System.arraycopy(row, 1, sets, 0, sets.length);
        return Expect.unfolded(due, row[0], sets);
    }

    private static int moreConditions(PlainModel model) {
        return Integer.bitCount(model.postset[model.nextThen.transition]);
    }

    private static void thirtyEvents() {
        Checks.about("at most 30 events");
        int[] row = {255, 3, 1, 5, 1, 9, 1, 48, 16, 80, 16, 144, 16};
        NetUnfolder x = unfoldedRow(30, row);
        Checks.same("events", x.count(0), 30);
        Checks.same("causes of the last one", x.event(29, 1), 3);
        Checks.same("none behind it", x.event(30, 1), NetUnfolder.NONE);
        Checks.same("the last is no cut-off", x.event(29, 3), 0);
        Checks.same("reach", x.reach(17), 6);
    }

    private static void thirtyEventsTheLastACutOff() {
        Checks.about("at most 30 events, the last a cut-off");
        NetUnfolder x = unfoldedRow(30, 253, 17, 1, 48, 16, 80, 16, 144, 16, 101, 5);
        Checks.same("the last is a cut-off", x.event(29, 3), 1);
    }

    private static void oneEventMore() {
        Checks.about("if one more event would come, there is NO ROOM");
        int[] row = {15, 10, 2, 2, 16, 6, 2, 17, 2};
        PlainModel edge = modelOf(row);
        Checks.same("edge: events", edge.eventsThen, 30);
        Checks.that("edge: there is room else", edge.conditionsThen + moreConditions(edge) <= 60);
        Checks.that("edge: no cut-off", !edge.nextThen.cutOff);
        Checks.same("edge: with room for one more", withMoreRoom(1, 0, 0, row).answer, 31);
        Expect.noPrefix(unfoldedRow(ROOM, row));
    }

    private static void oneCutOffMore() {
        Checks.about("if one more event would come, there is NO ROOM: a cut-off, too");
        int[] row = {95, 17, 1, 5, 1, 9, 1, 1, 1};
        PlainModel edge = modelOf(row);
        Checks.same("edge: events", edge.eventsThen, 30);
        Checks.that("edge: a cut-off", edge.nextThen.cutOff);
        Checks.same("edge: with room for one more", withMoreRoom(1, 0, 0, row).answer, 31);
        Expect.noPrefix(unfoldedRow(ROOM, row));
    }

    private static void oneEventMoreThatIsNotSafe() {
        Checks.about("Nothing comes then: so no room is needed for one event more");
        int[] row = {7, 7, 197, 5, 8, 6, 68, 4, 40, 8, 20, 8, 4};
        NetUnfolder x = unfoldedRow(UNSAFE, row);
        Checks.same("events", x.count(0), 30);
        Expect.wayIs(x, 3, 4, 3);
    }

    private static void sixtyConditions() {
        Checks.about("at most 60 conditions");
        NetUnfolder x = unfoldedRow(21, 221, 88, 26, 69, 65, 137, 9, 26, 112);
        Checks.same("conditions", x.count(1), 60);
        Checks.that("the last is there", x.condition(59, 0) != NetUnfolder.NONE);
        Checks.same("none behind it", x.condition(60, 0), NetUnfolder.NONE);
        Checks.that("the last is concurrent with another made with it", x.concurrent(59, 58));
        Checks.that("not with one that is not there", !x.concurrent(59, 60));
    }

    private static void sixtyConditionsAndACutOff() {
        Checks.about("at most 60 conditions; a cut-off makes none");
        NetUnfolder x = unfoldedRow(26, 221, 153, 145, 88, 26, 69, 65, 137, 9, 72, 96, 30, 112);
        Checks.same("conditions", x.count(1), 60);
        Checks.same("the last event is a cut-off", x.event(25, 3), 1);
    }

    private static void sixtyConditionsAndAnEmptyPostset() {
        Checks.about("at most 60 conditions; an event with an empty postset makes none");
        int[] row = {243, 125, 3, 161, 160, 172, 168, 194, 130, 34, 44, 240, 0};
        NetUnfolder x = unfoldedRow(modelOf(row).answer, row);
        Checks.same("conditions", x.count(1), 60);
        int last = x.count(0) - 1;
        Checks.same("transition of the last event", x.event(last, 0), 5);
        Checks.same("it is no cut-off", x.event(last, 3), 0);
        Checks.that("it came behind the last condition", x.condition(59, 1) < last);
    }

    private static void aCutOffThatWouldMakeTooMany() {
        Checks.about("at most 60 conditions; those that a cut-off would make do not count");
        int[] row = {255, 11, 11, 187, 147, 121, 89, 83, 19, 148, 20};
        NetUnfolder x = unfoldedRow(26, row);
        Checks.same("conditions", x.count(1), 59);
        boolean found = false;
        for (int e = x.condition(58, 1) + 1; e < 26; e++) {
            found |= x.event(e, 3) == 1 && Integer.bitCount(row[2 * x.event(e, 0) + 2]) > 1;
        }
        Checks.that("such a cut-off has come behind the last condition", found);
    }

    private static void oneConditionMore() {
        Checks.about("if one more condition would come, there is NO ROOM");
        int[] row = {221, 88, 26, 69, 65, 137, 9, 30, 120};
        PlainModel edge = modelOf(row);
        Checks.that("edge: there is room for the event", edge.eventsThen < 30);
        Checks.same("edge: conditions", edge.conditionsThen + moreConditions(edge), 61);
        Checks.that("edge: no cut-off", !edge.nextThen.cutOff);
        Checks.same("edge: with room for one more", withMoreRoom(0, 1, 0, row).answer, 20);
        Expect.noPrefix(unfoldedRow(ROOM, row));
        // Behind one more the net would not be safe: that is not looked for any more.
        int[] unsafe = {221, 88, 26, 69, 65, 137, 9, 18, 112};
        Checks.same("edge: with room for one more", withMoreRoom(0, 1, 0, unsafe).answer, UNSAFE);
        Expect.noPrefix(unfoldedRow(ROOM, unsafe));
    }

    private static void severalConditionsMore() {
        Checks.about("if more conditions would come, there is NO ROOM");
        int[] row = {191, 59, 43, 46, 78, 29, 28, 141, 13};
        PlainModel edge = modelOf(row);
        Checks.same("edge: conditions", edge.conditionsThen + moreConditions(edge), 64);
        Expect.noPrefix(unfoldedRow(ROOM, row));
    }

    private static void oneConditionMoreThatIsNotSafe() {
        Checks.about("Nothing comes then: so no room is needed for its conditions");
        int[] row = {191, 59, 43, 46, 44, 46, 78, 29, 28, 157, 93};
        PlainModel edge = modelOf(row);
        Checks.that("edge: conditions", edge.conditionsThen + moreConditions(edge) > 60 && !edge.nextThen.cutOff);
        NetUnfolder x = unfoldedRow(UNSAFE, row);
        Checks.same("conditions", x.count(1), 58);
        Expect.wayIs(x, 4, 2);
    }

    private static void twoHundredPossible() {
        Checks.about("200 events may be possible");
        int[] row = {199, 65, 1, 6, 4, 5, 33, 1, 17, 132, 36, 5, 13, 1, 25, 5, 37};
        Checks.same("edge: possible", modelOf(row).mostPossible, 200);
        NetUnfolder x = unfoldedRow(UNSAFE, row);
        Checks.same("events", x.count(0), 27);
        Expect.wayIs(x, 4, 2);
    }

    private static void oneMorePossible() {
        Checks.about("nor is there when more than 200 events are possible, when one has come");
        int[] row = {178, 48, 32, 130, 2, 34, 2, 32, 40, 34, 35, 2, 6, 2, 70, 34, 99};
        PlainModel edge = modelOf(row);
        Checks.same("edge: possible", edge.possibleThen, 201);
        Checks.that("edge: room for the next event", edge.eventsThen < 30);
        Checks.that("edge: room for its conditions", edge.conditionsThen + moreConditions(edge) <= 60);
        Checks.same("edge: it would be safe", edge.rivalThen, NetUnfolder.NONE);
        Expect.noPrefix(unfoldedRow(ROOM, row));
    }

    private static void oneMorePossibleAndNotSafe() {
        Checks.about("more than 200 are too many before the next of them is looked at");
        int[] row = {178, 48, 32, 130, 2, 34, 3, 32, 40, 34, 35, 2, 6, 2, 70, 34, 98};
        PlainModel edge = modelOf(row);
        Checks.same("edge: possible", edge.possibleThen, 201);
        Checks.that("edge: it would not be safe", edge.rivalThen != NetUnfolder.NONE);
        Checks.same("edge: with one more", withMoreRoom(0, 0, 1, row).answer, UNSAFE);
        Expect.noPrefix(unfoldedRow(ROOM, row));
    }

    private static void mostAtTheBeginning() {
        Checks.about("at the beginning: eight are the most that can be possible");
        int[] row = new int[17];
        row[0] = 255;
        for (int t = 0; t < 8; t++) {
            row[2 * t + 1] = 255;
        }
        Checks.same("edge: possible", modelOf(row).mostPossible, 8);
        NetUnfolder x = unfoldedRow(8, row);
        Checks.same("takers of one condition", x.condition(7, 2), 8);
    }

    private static void roomIsThereAgain() {
        Checks.about("ROOM (there is no way, and no prefix), and the net stays");
        NetUnfolder x = Expect.unfolded(ROOM, 31, 3, 1, 5, 1, 9, 1, 17, 1);
        Expect.noPrefix(x);
        Checks.same("unfold again", x.unfold(), ROOM);
        Expect.noPrefix(x);
        x.first(15);
        Checks.same("with a place less", x.unfold(), 15);
        Checks.same("reach", x.reach(1), 3);
        x.first(31);
        Checks.same("with that place again", x.unfold(), ROOM);
        Expect.noPrefix(x);
        Checks.same("the transitions are still there", x.transition(1, 1), 4);
    }
}
