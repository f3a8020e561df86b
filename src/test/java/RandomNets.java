import java.util.Random;

/** Nets of several kinds, since nets that are merely random are seldom safe and never large. */
final class RandomNets {
    static final int KINDS = 6;

    /** Nets at the edges of what there is room for: first marking, then preset and postset in turn. */
    private static final int[][] LARGE = {
        {247, 100, 68, 198, 66, 3, 10, 83, 88, 88, 1},
        {250, 128, 4, 214, 1, 224, 160, 248, 233, 160, 128, 187, 11, 114, 51, 138, 2},
        {15, 10, 2, 2, 16, 6, 2, 17, 130, 157, 8},
        {243, 125, 3, 161, 160, 172, 168, 194, 130, 34, 44},
        {191, 59, 43, 46, 108, 46, 78, 250, 20, 29, 28, 157, 13},
        {199, 65, 1, 6, 4, 5, 33, 1, 17, 132, 36, 5, 13, 1, 25, 5, 37},
        {178, 48, 32, 130, 2, 34, 3, 32, 40, 34, 35, 2, 6, 2, 70, 34, 99},
        {7, 7, 197, 4, 8, 6, 68, 4, 40, 8, 20, 8, 4},
        {63, 10, 136, 28, 68, 136, 10, 234, 51, 224, 2, 224, 66, 199, 225, 69, 76},
        {223, 17, 1, 64, 0, 5, 1, 2, 32, 9, 1, 128, 0, 11, 1},
        {255, 3, 1, 5, 1, 9, 1, 48, 16, 80, 16, 144, 16},
        {221, 153, 145, 88, 26, 69, 65, 122, 216, 137, 9, 72, 96, 30, 112},
        {255, 99, 1, 11, 11, 187, 147, 121, 89, 83, 19, 148, 20},
        {253, 17, 1, 48, 16, 80, 16, 144, 16, 101, 5},
        {223, 17, 1, 5, 1, 9, 1, 1, 1},
        {221, 88, 26, 69, 65, 137, 9, 26, 112},
        {243, 125, 3, 161, 160, 172, 168, 194, 130, 34, 44, 240, 0},
        {191, 59, 43, 46, 44, 46, 78, 29, 28, 157, 93},
        {186, 48, 32, 130, 2, 34, 2, 40, 32, 34, 35, 2, 6, 2, 70, 34, 99},
        {195, 128, 16, 112, 138, 18, 160, 57, 198, 60, 199, 109, 44},
        {167, 106, 51, 3, 10, 12, 65, 58, 23, 216, 37, 88, 1, 255, 25},
    };

    final int[] preset;
    final int[] postset;
    final int first;
    private final Random random;

    RandomNets(int kind, Random random) {
        this.random = random;
        int[] large = LARGE[random.nextInt(LARGE.length)];
        int size = kind == 5 ? large.length / 2 : 1 + random.nextInt(8);
        preset = new int[size];
        postset = new int[size];
        switch (kind) {
            case 0:
                first = anyPlaces();
                break;
            case 1:
                first = machines(1 + random.nextInt(3));
                break;
            case 2:
                first = machines(3 + random.nextInt(3));
                break;
            case 3:
                first = sharedLoops();
                break;
            case 4:
                first = spendingPlaces();
                break;
            default:
                first = nearly(large);
                break;
        }
    }

    private int somePlaces(int least, int most) {
        int places = 0;
        int number = least + random.nextInt(most - least + 1);
        for (int k = 0; k < number; k++) {
            places |= 1 << random.nextInt(8);
        }
        return places;
    }

    private int anyPlaces() {
        for (int t = 0; t < preset.length; t++) {
            preset[t] = somePlaces(1, 3);
            postset[t] = somePlaces(0, 2);
        }
        return somePlaces(1, 4);
    }

    /** Each place belongs to a machine, and each machine has one token: always safe. */
    private int machines(int number) {
        int[] machineOf = new int[8];
        for (int p = 0; p < 8; p++) {
            machineOf[p] = p < number ? p : random.nextInt(number);
        }
        for (int t = 0; t < preset.length; t++) {
            int together = 1 + random.nextInt(Math.min(number, 3));
            for (int k = 0; k < together; k++) {
                int machine = random.nextInt(number);
                if ((preset[t] & placesOf(machineOf, machine)) == 0) {
                    preset[t] |= 1 << onePlaceOf(machineOf, machine);
                    postset[t] |= 1 << onePlaceOf(machineOf, machine);
                }
            }
        }
        return (1 << number) - 1;
    }

    private static int placesOf(int[] machineOf, int machine) {
        int places = 0;
        for (int p = 0; p < 8; p++) {
            places |= machineOf[p] == machine ? 1 << p : 0;
        }
        return places;
    }

    private int onePlaceOf(int[] machineOf, int machine) {
        int p = random.nextInt(8);
        while (machineOf[p] != machine) {
            p = random.nextInt(8);
        }
        return p;
    }

    /** Transitions that all use one place again: orders of the same ones have the same rank. */
    private int sharedLoops() {
        int loops = 1 + random.nextInt(2);
        int shared = (1 << loops) - 1;
        int start = shared;
        for (int t = 0; t < preset.length; t++) {
            int p = loops + random.nextInt(8 - loops);
            int q = loops + random.nextInt(8 - loops);
            int loop = random.nextInt(3) == 0 ? 0 : 1 << random.nextInt(loops);
            preset[t] = 1 << p | loop;
            postset[t] = (random.nextInt(3) == 0 ? 0 : 1 << q) | loop;
            start |= random.nextInt(3) == 0 ? 0 : 1 << p;
        }
        return start;
    }

    /** Tokens are only spent or handed on: safe more often than not. */
    private int spendingPlaces() {
        for (int t = 0; t < preset.length; t++) {
            preset[t] = somePlaces(1, 3);
            postset[t] = random.nextBoolean() ? preset[t] & somePlaces(0, 4) : somePlaces(0, 1);
        }
        return somePlaces(2, 8);
    }

    /** The net itself, or one that differs from it in a few places. */
    private int nearly(int[] large) {
        for (int t = 0; t < preset.length; t++) {
            preset[t] = large[2 * t + 1];
            postset[t] = large[2 * t + 2];
        }
        int start = large[0];
        for (int k = random.nextInt(4); k > 0; k--) {
            int t = random.nextInt(preset.length);
            int place = 1 << random.nextInt(8);
            switch (random.nextInt(3)) {
                case 0:
                    preset[t] = (preset[t] ^ place) == 0 ? place : preset[t] ^ place;
                    break;
                case 1:
                    postset[t] ^= place;
                    break;
                default:
                    start ^= place;
                    break;
            }
        }
        return start;
    }
}
