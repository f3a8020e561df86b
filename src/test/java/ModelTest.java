import java.util.ArrayList;
import java.util.List;
import java.util.Random;
import java.util.TreeSet;

/** Compares the program with the plain model on many nets, made from fixed seeds. */
public final class ModelTest {
    private static final int NETS_OF_A_KIND = 4000;
    private static final int CALLS = 512;

    private final int[] preset;
    private final int[] postset;
    private final int first;
    private final PlainModel model;
    private NetUnfolder unfolder;
    private int calls;

    private ModelTest(int[] preset, int[] postset, int first) {
        this.preset = preset;
        this.postset = postset;
        this.first = first;
        this.model = new PlainModel(preset, postset, first);
    }

    public static void main(String[] args) {
        int whole = 0;
        int unsafe = 0;
        int room = 0;
        for (int kind = 0; kind < RandomNets.KINDS; kind++) {
            for (int seed = 0; seed < NETS_OF_A_KIND; seed++) {
                RandomNets net = new RandomNets(kind, new Random(seed));
                int answer = new ModelTest(net.preset, net.postset, net.first).compare();
                whole += answer >= 0 ? 1 : 0;
                unsafe += answer == NetUnfolder.UNSAFE ? 1 : 0;
                room += answer == NetUnfolder.ROOM ? 1 : 0;
            }
        }
        Checks.that("many nets of each sort", whole > 1000 && unsafe > 1000 && room > 200);
        System.out.println("nets: " + whole + " whole, " + unsafe + " not safe, " + room + " without room");
        Checks.end();
    }

    private int compare() {
        renew();
        comparePrefix();
        if (model.answer == NetUnfolder.UNSAFE) {
            compareWay("unfold", model.way);
        }
        if (model.answer >= 0) {
            compareQuestions();
        }
        return model.answer;
    }

    /** An object is used for 512 calls at most, so each net needs several. */
    private NetUnfolder x() {
        calls++;
        if (calls > CALLS) {
            renew();
        }
        return unfolder;
    }

    private void renew() {
        unfolder = usedAndCleared();
        for (int t = 0; t < preset.length; t++) {
            unfolder.transition(preset[t], postset[t]);
        }
        unfolder.first(first);
        same("unfold()", unfolder.unfold(), model.answer);
        calls = 11 + preset.length + 2;
    }

    /** What an earlier net leaves in the rows inside must not be seen in the next one. */
    private static NetUnfolder usedAndCleared() {
        NetUnfolder used = new NetUnfolder();
        for (int loop = 0; loop < 8; loop += 4) {
            for (int k = 1; k < 4; k++) {
                used.transition(1 << loop | 1 << loop + k, 1 << loop);
            }
        }
        used.first(255);
        Checks.same("unfold() of the earlier net", used.unfold(), 30);
        Checks.same("deadlock() of the earlier net", used.deadlock(), 6);
        used.clear();
        return used;
    }

    private void comparePrefix() {
        int cutOffs = 0;
        for (int e = 0; e < model.events.size(); e++) {
            PlainModel.Event event = model.events.get(e);
            cutOffs += event.cutOff ? 1 : 0;
            same("event " + e + " transition", x().event(e, 0), event.transition);
            same("event " + e + " causes", x().event(e, 1), event.causes.size());
            same("event " + e + " marking", x().event(e, 2), event.marking);
            same("event " + e + " cut-off", x().event(e, 3), event.cutOff ? 1 : 0);
            for (int k = 0; k <= event.takes.size(); k++) {
                int due = k < event.takes.size() ? event.takes.get(k) : NetUnfolder.NONE;
                same("takes " + e + " " + k, x().takes(e, k), due);
            }
        }
        same("events", x().count(0), model.events.size());
        same("conditions", x().count(1), model.conditions.size());
        same("cut-offs", x().count(2), cutOffs);
        same("no event more", x().event(model.events.size(), 0), NetUnfolder.NONE);
        same("no condition more", x().condition(model.conditions.size(), 0), NetUnfolder.NONE);
        for (int c = 0; c < model.conditions.size(); c++) {
            compareCondition(c);
        }
    }

    private void compareCondition(int c) {
        int takers = 0;
        for (PlainModel.Event event : model.events) {
            takers += event.takes.contains(c) ? 1 : 0;
        }
        same("condition " + c + " place", x().condition(c, 0), model.conditions.get(c).place);
        same("condition " + c + " maker", x().condition(c, 1), model.conditions.get(c).maker);
        same("condition " + c + " takers", x().condition(c, 2), takers);
        for (int d = 0; d <= model.conditions.size(); d++) {
            same("concurrent " + c + " " + d, x().concurrent(c, d) ? 1 : 0, model.isConcurrent(c, d) ? 1 : 0);
        }
    }

    private void compareQuestions() {
        List<List<Integer>> ways = new ArrayList<>();
        for (int m = 0; m < 256; m++) {
            ways.add(null);
        }
        List<Integer> dead = null;
        for (TreeSet<Integer> set : model.soundSets()) {
            int m = model.markingOf(set);
            if (ways.get(m) == null) {
                ways.set(m, model.transitionsOf(set));
            }
            if (dead == null && model.isDead(m)) {
                dead = model.transitionsOf(set);
            }
        }
        for (int m = 0; m < 256; m++) {
            same("reach(" + m + ")", x().reach(m), ways.get(m) == null ? NetUnfolder.NONE : ways.get(m).size());
            compareLatest("reach(" + m + ")", ways.get(m), m);
        }
        renew();
        same("deadlock()", x().deadlock(), dead == null ? NetUnfolder.NONE : dead.size());
        compareWay("deadlock()", dead);
    }

    /** The way of the question that was just put: it must be read before the object is renewed. */
    private void compareLatest(String of, List<Integer> due, int m) {
        if (calls + 40 > CALLS) {
            renew();
            unfolder.reach(m);
        }
        compareWay(of, due);
        if (due != null) {
            same(of + " played", x().play(due.size()), m);
        }
    }

    private void compareWay(String of, List<Integer> due) {
        int length = due == null ? 0 : due.size();
        same(of + " length", x().count(3), due == null ? NetUnfolder.NONE : length);
        for (int k = 0; k <= length; k++) {
            same(of + " way " + k, x().way(k), k < length ? due.get(k) : NetUnfolder.NONE);
        }
        int marking = first;
        for (int k = 0; k < length; k++) {
            same(of + " played " + k, x().play(k), marking);
            Checks.that(of + " can be played at " + k + named(), model.enables(marking, due.get(k)));
            marking = marking & ~preset[due.get(k)] | postset[due.get(k)];
        }
    }

    private void same(String call, int got, int due) {
        Checks.same(got == due ? call : call + named(), got, due);
    }

    private String named() {
        StringBuilder text = new StringBuilder(" of the net");
        for (int t = 0; t < preset.length; t++) {
            text.append(" ").append(preset[t]).append(">").append(postset[t]);
        }
        return text.append(" first ").append(first).toString();
    }
}
