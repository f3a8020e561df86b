import java.util.Random;

/** Nets of several kinds, since nets that are merely random are seldom safe and never large. */
final class RandomNets {
    static final int KINDS = 5;

    final int[] preset;
    final int[] postset;
    final int first;
    private final Random random;

    RandomNets(int kind, Random random) {
        this.random = random;
        int size = 1 + random.nextInt(8);
        preset = new int[size];
        postset = new int[size];
        switch (kind) {
            case 0:
                first = anyPlaces();
                break;
            case 1:
                first = machines(1 + random.nextInt(3));
                break;
            case 2:
                first = machines(3 + random.nextInt(3));
                break;
            case 3:
                first = sharedLoops();
                break;
            default:
                first = spendingPlaces();
                break;
        }
    }

    private int somePlaces(int least, int most) {
        int places = 0;
        int number = least + random.nextInt(most - least + 1);
        for (int k = 0; k < number; k++) {
            places |= 1 << random.nextInt(8);
        }
        return places;
    }

    private int anyPlaces() {
        for (int t = 0; t < preset.length; t++) {
            preset[t] = somePlaces(1, 3);
            postset[t] = somePlaces(0, 2);
        }
        return somePlaces(1, 4);
    }

    /** Each place belongs to a machine, and each machine has one token: always safe. */
    private int machines(int number) {
        int[] machineOf = new int[8];
        for (int p = 0; p < 8; p++) {
            machineOf[p] = p < number ? p : random.nextInt(number);
        }
        for (int t = 0; t < preset.length; t++) {
            int together = 1 + random.nextInt(Math.min(number, 3));
            for (int k = 0; k < together; k++) {
                int machine = random.nextInt(number);
                if ((preset[t] & placesOf(machineOf, machine)) == 0) {
                    preset[t] |= 1 << onePlaceOf(machineOf, machine);
                    postset[t] |= 1 << onePlaceOf(machineOf, machine);
                }
            }
        }
        return (1 << number) - 1;
    }

    private static int placesOf(int[] machineOf, int machine) {
        int places = 0;
        for (int p = 0; p < 8; p++) {
            places |= machineOf[p] == machine ? 1 << p : 0;
        }
        return places;
    }

    private int onePlaceOf(int[] machineOf, int machine) {
        int p = random.nextInt(8);
        while (machineOf[p] != machine) {
            p = random.nextInt(8);
        }
        return p;
    }

    /** Transitions that all use one place again: orders of the same ones have the same rank. */
    private int sharedLoops() {
        int loops = 1 + random.nextInt(2);
        int shared = (1 << loops) - 1;
        int start = shared;
        for (int t = 0; t < preset.length; t++) {
            int p = loops + random.nextInt(8 - loops);
            int q = loops + random.nextInt(8 - loops);
            int loop = random.nextInt(3) == 0 ? 0 : 1 << random.nextInt(loops);
            preset[t] = 1 << p | loop;
            postset[t] = (random.nextInt(3) == 0 ? 0 : 1 << q) | loop;
            start |= random.nextInt(3) == 0 ? 0 : 1 << p;
        }
        return start;
    }

    /** Tokens are only spent or handed on: safe more often than not. */
    private int spendingPlaces() {
        for (int t = 0; t < preset.length; t++) {
            preset[t] = somePlaces(1, 3);
            postset[t] = random.nextBoolean() ? preset[t] & somePlaces(0, 4) : somePlaces(0, 1);
        }
        return somePlaces(2, 8);
    }
}
