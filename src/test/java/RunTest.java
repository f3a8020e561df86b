import java.util.ArrayList;
import java.util.List;
import java.util.Random;
import java.util.TreeSet;

/** Long runs of calls in any order, with wrong inputs among them, compared with what is due. */
public final class RunTest {
    private static final int RUNS = 600;
    private static final int CALLS = 512;
    private static final int BAD_ARGUMENT = 1000001;
    private static final int BAD_STATE = 1000002;

    private final Random random;
    private final NetUnfolder x = new NetUnfolder();
    private final List<int[]> transitions = new ArrayList<>();
    private int first;
    private PlainModel prefix;
    private List<Integer> way;

    private RunTest(int seed) {
        random = new Random(seed);
    }

    public static void main(String[] args) {
        for (int seed = 0; seed < RUNS; seed++) {
            RunTest run = new RunTest(seed);
            for (int call = 0; call < CALLS; call++) {
                run.step("run " + seed + " call " + call + ": ");
            }
        }
        Checks.end();
    }

    private interface Call {
        int run();
    }

    private static void compare(String name, Call call, int due) {
        int got;
        try {
            got = call.run();
        } catch (IllegalArgumentException thrown) {
            got = BAD_ARGUMENT;
        } catch (IllegalStateException thrown) {
            got = BAD_STATE;
        }
        Checks.same(name, got, due);
    }

    private void step(String name) {
        int kind = random.nextInt(100);
        if (kind < 6) {
            addTransition(name, aSet(), aSet());
        } else if (kind < 10) {
            setFirst(name, aSet());
        } else if (kind < 11) {
            clear(name);
        } else if (kind < 20) {
            unfold(name);
        } else if (kind < 45) {
            ask(name);
        } else if (kind < 65) {
            readWay(name);
        } else {
            readPrefix(name);
        }
    }

    /** A set of few places, most often, or a number that is none. */
    private int aSet() {
        switch (random.nextInt(12)) {
            case 0:
                return -1 - random.nextInt(3);
            case 1:
                return 256 + random.nextInt(3);
            case 2:
                return random.nextInt(256);
            case 3:
                return random.nextBoolean() ? Integer.MIN_VALUE : Integer.MAX_VALUE;
            default:
                return 1 << random.nextInt(4) | (random.nextInt(3) == 0 ? 1 << random.nextInt(8) : 0);
        }
    }

    private int anIndex(int size) {
        int wild = random.nextBoolean() ? Integer.MIN_VALUE : Integer.MAX_VALUE;
        return random.nextInt(20) == 0 ? wild : random.nextInt(size + 3) - 1;
    }

    private static boolean isSet(int m) {
        return m >= 0 && m < 256;
    }

    private void forget() {
        prefix = null;
        way = null;
    }

    private void addTransition(String name, int preset, int postset) {
        int due = transitions.size();
        if (preset == 0 || !isSet(preset) || !isSet(postset)) {
            due = BAD_ARGUMENT;
        } else if (due == 8) {
            due = BAD_STATE;
        } else {
            transitions.add(new int[] {preset, postset});
            forget();
        }
        compare(name + "transition", () -> x.transition(preset, postset), due);
    }

    private void setFirst(String name, int m) {
        if (isSet(m)) {
            first = m;
            forget();
        }
        compare(name + "first", () -> {
            x.first(m);
            return 0;
        }, isSet(m) ? 0 : BAD_ARGUMENT);
    }

    private void clear(String name) {
        transitions.clear();
        first = 0;
        forget();
        compare(name + "clear", () -> {
            x.clear();
            return 0;
        }, 0);
    }

    private void unfold(String name) {
        int[] presets = new int[transitions.size()];
        int[] postsets = new int[transitions.size()];
        for (int t = 0; t < presets.length; t++) {
            presets[t] = transitions.get(t)[0];
            postsets[t] = transitions.get(t)[1];
        }
        prefix = new PlainModel(presets, postsets, first);
        int due = prefix.answer;
        if (due == NetUnfolder.UNSAFE) {
            way = prefix.way;
        } else if (due == NetUnfolder.ROOM) {
            forget();
        }
        compare(name + "unfold", x::unfold, due);
    }

    private void ask(String name) {
        boolean deadlock = random.nextInt(5) == 0;
        int m = deadlock ? 0 : aSet();
        int due;
        if (!isSet(m)) {
            due = BAD_ARGUMENT;
        } else if (prefix == null || prefix.answer < 0) {
            due = BAD_STATE;
        } else {
            way = null;
            for (TreeSet<Integer> set : prefix.soundSets()) {
                int marking = prefix.markingOf(set);
                if (way == null && (deadlock ? prefix.isDead(marking) : marking == m)) {
                    way = prefix.transitionsOf(set);
                }
            }
            due = way == null ? NetUnfolder.NONE : way.size();
        }
        if (deadlock) {
            compare(name + "deadlock", x::deadlock, due);
        } else {
            compare(name + "reach", () -> x.reach(m), due);
        }
    }

    private void readWay(String name) {
        int length = way == null ? 0 : way.size();
        int n = anIndex(length);
        if (random.nextBoolean()) {
            compare(name + "way", () -> x.way(n), n >= 0 && n < length ? way.get(n) : NetUnfolder.NONE);
            return;
        }
        int due = first;
        if (n < 0 || way != null && n > length) {
            due = BAD_ARGUMENT;
        } else if (way == null) {
            due = BAD_STATE;
        } else {
            for (int k = 0; k < n; k++) {
                int[] t = transitions.get(way.get(k));
                due = due & ~t[0] | t[1];
            }
        }
        compare(name + "play", () -> x.play(n), due);
    }

    private void readPrefix(String name) {
        int events = prefix == null ? 0 : prefix.events.size();
        int conditions = prefix == null ? 0 : prefix.conditions.size();
        int what = anIndex(4);
        int e = anIndex(events);
        int c = anIndex(conditions);
        int d = anIndex(conditions);
        switch (random.nextInt(5)) {
            case 0:
                compare(name + "count " + what, () -> x.count(what), countDue(what));
                break;
            case 1:
                boolean there = e >= 0 && e < events;
                compare(name + "event " + what, () -> x.event(e, what), there ? eventDue(e, what) : NetUnfolder.NONE);
                break;
            case 2:
                boolean taken = e >= 0 && e < events && what >= 0 && what < prefix.events.get(e).takes.size();
                compare(name + "takes", () -> x.takes(e, what),
                        taken ? prefix.events.get(e).takes.get(what) : NetUnfolder.NONE);
                break;
            case 3:
                boolean made = c >= 0 && c < conditions;
                compare(name + "condition " + what, () -> x.condition(c, what),
                        made ? conditionDue(c, what) : NetUnfolder.NONE);
                break;
            default:
                boolean due = prefix != null && prefix.isConcurrent(c, d);
                compare(name + "concurrent", () -> x.concurrent(c, d) ? 1 : 0, due ? 1 : 0);
                break;
        }
    }

    private int countDue(int what) {
        if (what == 3) {
            return way == null ? NetUnfolder.NONE : way.size();
        }
        if (what < 0 || what > 3) {
            return NetUnfolder.NONE;
        }
        if (prefix == null) {
            return 0;
        }
        int cutOffs = 0;
        for (PlainModel.Event event : prefix.events) {
            cutOffs += event.cutOff ? 1 : 0;
        }
        return what == 0 ? prefix.events.size() : what == 1 ? prefix.conditions.size() : cutOffs;
    }

    private int eventDue(int e, int what) {
        PlainModel.Event event = prefix.events.get(e);
        int[] due = {event.transition, event.causes.size(), event.marking, event.cutOff ? 1 : 0};
        return what >= 0 && what < due.length ? due[what] : NetUnfolder.NONE;
    }

    private int conditionDue(int c, int what) {
        int takers = 0;
        for (PlainModel.Event event : prefix.events) {
            takers += event.takes.contains(c) ? 1 : 0;
        }
        PlainModel.Condition condition = prefix.conditions.get(c);
        int[] due = {condition.place, condition.maker, takers};
        return what >= 0 && what < due.length ? due[what] : NetUnfolder.NONE;
    }
}
