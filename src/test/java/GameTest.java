import java.util.ArrayDeque;
import java.util.Random;

/**
 * The document's first sentence, held against the net itself: without any prefix, by firing transitions
 * from the first marking on, it is found out which markings can be reached and whether the net is safe.
 */
public final class GameTest {
    private static final int NETS_OF_A_KIND = 1500;
    private static final int MARKINGS = 256;
    /** Each marking costs a question and the calls that play its way, so an object is soon renewed. */
    private static final int QUESTIONS_OF_AN_OBJECT = 14;

    private final int[] preset;
    private final int[] postset;
    private final int first;
    private final boolean[] reached = new boolean[MARKINGS];
    private boolean safe = true;
    private NetUnfolder x;
    private int answer;

    private GameTest(RandomNets net) {
        preset = net.preset;
        postset = net.postset;
        first = net.first;
        playAll();
    }

    public static void main(String[] args) {
        int whole = 0;
        int unsafe = 0;
        for (int kind = 0; kind < RandomNets.KINDS; kind++) {
            for (int seed = 0; seed < NETS_OF_A_KIND; seed++) {
                GameTest game = new GameTest(new RandomNets(kind, new Random(1000000 + seed)));
                game.compare();
                whole += game.answer >= 0 ? 1 : 0;
                unsafe += game.answer == NetUnfolder.UNSAFE ? 1 : 0;
            }
        }
        Checks.that("many nets of each sort", whole > 1000 && unsafe > 1000);
        Checks.end();
    }

    private void playAll() {
        ArrayDeque<Integer> open = new ArrayDeque<>();
        reached[first] = true;
        open.add(first);
        while (!open.isEmpty()) {
            int m = open.remove();
            for (int t = 0; t < preset.length; t++) {
                if (enables(m, t)) {
                    safe &= !putsASecondToken(m, t);
                    int then = fire(m, t);
                    if (!reached[then]) {
                        reached[then] = true;
                        open.add(then);
                    }
                }
            }
        }
    }

    private boolean enables(int m, int t) {
        return (m & preset[t]) == preset[t];
    }

    private int fire(int m, int t) {
        return m & ~preset[t] | postset[t];
    }

    private boolean putsASecondToken(int m, int t) {
        return (m & ~preset[t] & postset[t]) != 0;
    }

    private boolean isDead(int m) {
        for (int t = 0; t < preset.length; t++) {
            if (enables(m, t)) {
                return false;
            }
        }
        return true;
    }

    private void compare() {
        makeUnfolder();
        if (answer == NetUnfolder.UNSAFE) {
            Checks.that("UNSAFE only where a place can get a second token" + named(), !safe);
            compareUnsafeWay();
        } else if (answer >= 0) {
            Checks.that("whole only where no place can get a second token" + named(), safe);
            compareQuestions();
        }
    }

    private void makeUnfolder() {
        x = new NetUnfolder();
        for (int t = 0; t < preset.length; t++) {
            x.transition(preset[t], postset[t]);
        }
        x.first(first);
        answer = x.unfold();
    }

    private void compareUnsafeWay() {
        int last = x.count(3) - 1;
        int m = play(last);
        int t = x.way(last);
        Checks.that("the last of the way is enabled" + named(), enables(m, t));
        Checks.that("and puts a second token on a place" + named(), putsASecondToken(m, t));
    }

    private void compareQuestions() {
        for (int m = 0; m < MARKINGS; m++) {
            if (m % QUESTIONS_OF_AN_OBJECT == 0) {
                makeUnfolder();
            }
            int length = x.reach(m);
            Checks.that("reach(" + m + ") answers a way exactly where it can be reached" + named(),
                    length >= 0 == reached[m]);
            if (length >= 0) {
                Checks.same("the way leads there" + named(), play(length), m);
            }
        }
        compareDeadlock();
    }

    private void compareDeadlock() {
        boolean due = false;
        for (int m = 0; m < MARKINGS; m++) {
            due |= reached[m] && isDead(m);
        }
        makeUnfolder();
        int length = x.deadlock();
        Checks.that("deadlock() answers a way exactly where there is one" + named(), length >= 0 == due);
        if (length >= 0) {
            Checks.that("nothing can happen then" + named(), isDead(play(length)));
        }
    }

    /** Plays the first n of the way, step by step, beside the object itself. */
    private int play(int n) {
        int m = first;
        for (int k = 0; k < n; k++) {
            int t = x.way(k);
            Checks.that("step " + k + " of the way can be played" + named(), enables(m, t));
            m = fire(m, t);
        }
        Checks.same("play(" + n + ")" + named(), x.play(n), m);
        return m;
    }

    private String named() {
        StringBuilder text = new StringBuilder(" in the net");
        for (int t = 0; t < preset.length; t++) {
            text.append(" ").append(preset[t]).append(">").append(postset[t]);
        }
        return text.append(" first ").append(first).toString();
    }
}
