import java.util.ArrayList;
import java.util.Collections;
import java.util.List;
import java.util.TreeSet;

/**
 * The document's terms, word by word and without any cleverness: what the program answers is
 * compared with what this answers. Only nets and questions are taken; there are no wrong inputs.
 */
final class PlainModel {
    private static final int MAX_EVENTS = 30;
    private static final int MAX_CONDITIONS = 60;
    private static final int MAX_POSSIBLE = 200;

    static final class Condition {
        int place;
        int maker;
        TreeSet<Integer> causes = new TreeSet<>();
    }

    static final class Event {
        int transition;
        List<Integer> takes = new ArrayList<>();
        TreeSet<Integer> causes = new TreeSet<>();
        List<Integer> rank = new ArrayList<>();
        int marking;
        boolean cutOff;
    }

    final int[] preset;
    final int[] postset;
    final int first;
    final List<Condition> conditions = new ArrayList<>();
    final List<Event> events = new ArrayList<>();
    private final boolean[][] concurrent;
    private final int maxEvents;
    private final int maxConditions;
    private final int maxPossible;
    int answer;
    List<Integer> way;

    /** How it stood when it ended, and what would have come next: told even when there was no room. */
    int eventsThen;
    int conditionsThen;
    int possibleThen;
    int mostPossible;
    Event nextThen;
    int rivalThen;

    PlainModel(int[] preset, int[] postset, int first) {
        this(preset, postset, first, 0, 0, 0);
    }

    /** With room for some more events, conditions and possible events than the document has. */
    PlainModel(int[] preset, int[] postset, int first, int moreEvents, int moreConditions, int morePossible) {
        this.preset = preset;
        this.postset = postset;
        this.first = first;
        maxEvents = MAX_EVENTS + moreEvents;
        maxConditions = MAX_CONDITIONS + moreConditions;
        maxPossible = MAX_POSSIBLE + morePossible;
        concurrent = new boolean[maxConditions][maxConditions];
        answer = unfold();
    }

    private int unfold() {
        makeConditions(first, NetUnfolder.NONE);
        while (true) {
            List<Event> possible = possibleEvents();
            eventsThen = events.size();
            conditionsThen = conditions.size();
            possibleThen = possible.size();
            mostPossible = Math.max(mostPossible, possibleThen);
            if (possible.isEmpty()) {
                return events.size();
            }
            Event next = Collections.min(possible, PlainModel::compareEvents);
            next.marking = markingWith(next);
            next.cutOff = isCutOff(next);
            nextThen = next;
            rivalThen = leastRival(next);
            if (possible.size() > maxPossible) {
                return noRoom();
            }
            if (rivalThen != NetUnfolder.NONE) {
                way = unsafeWay(rivalThen, next);
                return NetUnfolder.UNSAFE;
            }
            int more = next.cutOff ? 0 : Integer.bitCount(postset[next.transition]);
            if (events.size() == maxEvents || conditions.size() + more > maxConditions) {
                return noRoom();
            }
            next.causes.add(events.size());
            events.add(next);
            if (!next.cutOff) {
                makeConditions(postset[next.transition], events.size() - 1);
            }
        }
    }

    private int noRoom() {
        events.clear();
        conditions.clear();
        return NetUnfolder.ROOM;
    }

    private void makeConditions(int places, int maker) {
        for (int p = 0; p < 8; p++) {
            if ((places & 1 << p) != 0) {
                Condition c = new Condition();
                c.place = p;
                c.maker = maker;
                if (maker >= 0) {
                    c.causes.addAll(events.get(maker).causes);
                }
                conditions.add(c);
                int n = conditions.size() - 1;
                for (int d = 0; d < n; d++) {
                    concurrent[n][d] = areConcurrent(n, d);
                    concurrent[d][n] = concurrent[n][d];
                }
            }
        }
    }

    boolean isConcurrent(int c, int d) {
        return c >= 0 && d >= 0 && c < conditions.size() && d < conditions.size() && concurrent[c][d];
    }

    private boolean areConcurrent(int c, int d) {
        TreeSet<Integer> both = new TreeSet<>(conditions.get(c).causes);
        both.addAll(conditions.get(d).causes);
        for (int e : both) {
            if (events.get(e).takes.contains(c) || events.get(e).takes.contains(d)) {
                return false;
            }
        }
        return isSound(both);
    }

    boolean isSound(TreeSet<Integer> set) {
        TreeSet<Integer> taken = new TreeSet<>();
        for (int e : set) {
            if (!set.containsAll(events.get(e).causes)) {
                return false;
            }
            for (int c : events.get(e).takes) {
                if (!taken.add(c)) {
                    return false;
                }
            }
        }
        return true;
    }

    int markingOf(TreeSet<Integer> set) {
        int marking = 0;
        for (int c = 0; c < conditions.size(); c++) {
            int maker = conditions.get(c).maker;
            boolean there = maker < 0 || set.contains(maker);
            for (int e : set) {
                there &= !events.get(e).takes.contains(c);
            }
            if (there) {
                marking |= 1 << conditions.get(c).place;
            }
        }
        return marking;
    }

    private int markingWith(Event next) {
        int marking = postset[next.transition];
        for (int c = 0; c < conditions.size(); c++) {
            int maker = conditions.get(c).maker;
            boolean there = maker < 0 || next.causes.contains(maker);
            there &= !next.takes.contains(c);
            for (int e : next.causes) {
                there &= !events.get(e).takes.contains(c);
            }
            if (there) {
                marking |= 1 << conditions.get(c).place;
            }
        }
        return marking;
    }

    private boolean isCutOff(Event next) {
        if (next.marking == first) {
            return true;
        }
        for (Event earlier : events) {
            if (earlier.marking == next.marking && compareRows(earlier.rank, next.rank) < 0) {
                return true;
            }
        }
        return false;
    }

    private int leastRival(Event next) {
        for (int c = 0; c < conditions.size(); c++) {
            if (isRival(c, next)) {
                return c;
            }
        }
        return NetUnfolder.NONE;
    }

    private boolean isRival(int c, Event next) {
        if ((postset[next.transition] & 1 << conditions.get(c).place) == 0 || next.takes.contains(c)) {
            return false;
        }
        for (int d : next.takes) {
            if (!concurrent[c][d]) {
                return false;
            }
        }
        return true;
    }

    private List<Integer> unsafeWay(int c, Event next) {
        List<Integer> row = new ArrayList<>();
        for (int e : conditions.get(c).causes) {
            row.add(events.get(e).transition);
        }
        for (int e : next.causes) {
            if (!conditions.get(c).causes.contains(e)) {
                row.add(events.get(e).transition);
            }
        }
        row.add(next.transition);
        return row;
    }

    private List<Event> possibleEvents() {
        List<Event> found = new ArrayList<>();
        for (int t = 0; t < preset.length; t++) {
            choose(t, 0, new ArrayList<>(), found);
        }
        return found;
    }

    private void choose(int t, int p, List<Integer> chosen, List<Event> found) {
        if (p == 8) {
            if (!isThere(t, chosen)) {
                found.add(candidate(t, chosen));
            }
            return;
        }
        if ((preset[t] & 1 << p) == 0) {
            choose(t, p + 1, chosen, found);
            return;
        }
        for (int c = 0; c < conditions.size(); c++) {
            boolean fits = conditions.get(c).place == p;
            for (int d : chosen) {
                fits = fits && concurrent[c][d];
            }
            if (fits) {
                chosen.add(c);
                choose(t, p + 1, chosen, found);
                chosen.remove(chosen.size() - 1);
            }
        }
    }

    private boolean isThere(int t, List<Integer> takes) {
        for (Event e : events) {
            if (e.transition == t && e.takes.equals(takes)) {
                return true;
            }
        }
        return false;
    }

    /** Its causes lack itself until it has a number. */
    private Event candidate(int t, List<Integer> takes) {
        Event e = new Event();
        e.transition = t;
        e.takes.addAll(takes);
        for (int c : takes) {
            e.causes.addAll(conditions.get(c).causes);
        }
        List<Integer> transitions = new ArrayList<>();
        transitions.add(t);
        for (int f : e.causes) {
            transitions.add(events.get(f).transition);
        }
        Collections.sort(transitions);
        e.rank.add(transitions.size());
        e.rank.addAll(transitions);
        return e;
    }

    private static int compareEvents(Event a, Event b) {
        int byRank = compareRows(a.rank, b.rank);
        if (byRank != 0) {
            return byRank;
        }
        int byTransition = Integer.compare(a.transition, b.transition);
        return byTransition != 0 ? byTransition : compareRows(a.takes, b.takes);
    }

    private static int compareRows(List<Integer> a, List<Integer> b) {
        for (int k = 0; k < Math.min(a.size(), b.size()); k++) {
            if (!a.get(k).equals(b.get(k))) {
                return Integer.compare(a.get(k), b.get(k));
            }
        }
        return Integer.compare(a.size(), b.size());
    }

    boolean enables(int marking, int t) {
        return (marking & preset[t]) == preset[t];
    }

    boolean isDead(int marking) {
        for (int t = 0; t < preset.length; t++) {
            if (enables(marking, t)) {
                return false;
            }
        }
        return true;
    }

    /** All sound sets without cut-offs, in the order in which a question compares them. */
    List<TreeSet<Integer>> soundSets() {
        List<TreeSet<Integer>> found = new ArrayList<>();
        collect(0, new TreeSet<>(), found);
        return found;
    }

    private void collect(int e, TreeSet<Integer> set, List<TreeSet<Integer>> found) {
        if (e == events.size()) {
            found.add(new TreeSet<>(set));
            return;
        }
        collect(e + 1, set, found);
        if (!events.get(e).cutOff) {
            set.add(e);
            if (isSound(set)) {
                collect(e + 1, set, found);
            }
            set.remove(e);
        }
    }

    List<Integer> transitionsOf(TreeSet<Integer> set) {
        List<Integer> row = new ArrayList<>();
        for (int e : set) {
            row.add(events.get(e).transition);
        }
        return row;
    }
}
