/** Promises 21 to 29: weights, what is foretold, left-overs, and the best delays, speeds and weights. */
public final class ForetellingTest {
    private static final Class<?> ARGUMENT = IllegalArgumentException.class;
    private static final Class<?> INDEX = IndexOutOfBoundsException.class;
    private static final int[] FAR = {Integer.MIN_VALUE, Integer.MAX_VALUE};

    public static void main(String[] args) {
        promises21And22();
        promises21And22Refuse();
        promise23();
        promise23ByWeights();
        promise24();
        promise25();
        promise26();
        promise27();
        promise28();
        promise29();
        refuseNumbersAndKinds();
        Checks.end("ForetellingTest");
    }

    private static void weights(CaveEchoes cave, int number, int... want) {
        for (int weight = 1; weight <= 4; weight++) {
            String at = "(" + weight + ", " + number + ")";
            Checks.due("weightAt" + at, cave.weightAt(weight, number), want[weight - 1]);
            Checks.due("weightByCounting" + at, cave.weightByCounting(weight, number), want[weight - 1]);
        }
    }

    private static void promises21And22() {
        CaveEchoes cave = Caves.of(10, 20, 30, 38);
        weights(cave, 0, 16, 0, 0, 0);
        weights(cave, 1, 16, 0, 0, 0);
        weights(cave, 2, 17, 0, 0, 0);
        weights(cave, 3, 18, 1, 0, 0);
        weights(cave, 4, 19, 2, 1, 0);
        // 10 is foretold for -20: less, as the left-over is below 0 and the sample ahead is not
        weights(Caves.of(10, -20), 2, 15, 0, 0, 0);
        // -10 is foretold for -20: greater, as both are below 0
        weights(Caves.of(-10, -20), 2, 17, 0, 0, 0);
        weights(Caves.of(-10, 20), 2, 15, 0, 0, 0);
        // nothing is left over, then a sample ahead is 0
        weights(Caves.of(10, 10), 2, 16, 0, 0, 0);
        weights(Caves.of(10, 0, 5), 3, 15, 1, 0, 0);
        CaveEchoes limited = Caves.of(50, 99);
        limited.setWeight(1, 64);
        weights(limited, 2, 64, 0, 0, 0);
        limited.setSpeed(3);
        limited.change(1, 98);
        weights(limited, 2, 61, 0, 0, 0);
        limited.setSpeed(0);
        weights(limited, 2, 64, 0, 0, 0);
        // four samples later, and nothing but the first one ahead
        weights(Caves.of(10, 0, 0, 0, 20), 5, 15, 0, 0, 1);
        Checks.due("weightByCounting() by itself", Caves.of(10, 10, 30).weightByCounting(1, 3), 17);
        Checks.due("weightAt() by itself", Caves.of(10, 20, 30).weightAt(1, 3), 18);
        // the kinds that are allowed do not matter
        weights(Caves.only(CaveEchoes.SILENCE, 10, 20, 30), 3, 18, 1, 0, 0);
    }

    private static void promises21And22Refuse() {
        int[][] numbers = {{1, -1}, {1, 11}, {0, 11}, {5, -1}, {4, FAR[0]}, {4, FAR[1]}, {FAR[0], FAR[0]}};
        for (int[] w : numbers) {
            Checks.refuses("weightAt() wrongly", INDEX, Caves::rich, c -> c.weightAt(w[0], w[1]));
            Checks.refuses("weightByCounting() wrongly", INDEX, Caves::rich, c -> c.weightByCounting(w[0], w[1]));
        }
        for (int weight : new int[] {0, 5, -1, FAR[0], FAR[1]}) {
            Checks.refuses("weightAt() wrongly", ARGUMENT, Caves::rich, c -> c.weightAt(weight, 10));
            Checks.refuses("weightByCounting() wrongly", ARGUMENT, Caves::rich, c -> c.weightByCounting(weight, 0));
        }
        CaveEchoes full = Checks.make(Caves::full);
        Checks.due("the same behind 48 samples", full.weightAt(2, 48), full.weightByCounting(2, 48));
        Checks.refuses("weightAt(1, 49)", INDEX, Caves::full, c -> c.weightAt(1, 49));
    }

    private static void foretold(CaveEchoes cave, int number, int... want) {
        for (int kind = 0; kind < 5; kind++) {
            Checks.due("foretold(" + kind + ", " + number + ")", cave.foretold(kind, number), want[kind]);
        }
    }

    private static void promise23() {
        foretold(new CaveEchoes(), 0, 0, 0, 0, 0, 0);
        CaveEchoes cave = Caves.of(10, 20, 30, 38);
        foretold(cave, 0, 0, 0, 0, 0, 0);
        foretold(cave, 1, 0, 10, 20, 0, 10);
        foretold(cave, 2, 0, 20, 30, 0, 21);
        foretold(cave, 3, 0, 30, 40, 0, 35);
        foretold(cave, 4, 0, 38, 46, 10, 50);
        cave.setDelay(1);
        Checks.due("foretold by delay 1", cave.foretold(CaveEchoes.DELAY, 4), 38);
        cave.setDelay(12);
        Checks.due("foretold by delay 12", cave.foretold(CaveEchoes.DELAY, 4), 0);
        Checks.due("a steep slope", Caves.of(-99, 99).foretold(CaveEchoes.SLOPE, 2), 99);
        Checks.due("a steep slope", Caves.of(99, -99).foretold(CaveEchoes.SLOPE, 2), -99);
        Checks.due("the slope at first", Caves.of(30).foretold(CaveEchoes.SLOPE, 1), 60);
        CaveEchoes full = Checks.make(Caves::full);
        Checks.due("the 49th by LAST", full.foretold(CaveEchoes.LAST, 48), 48);
        Checks.due("the 49th by SLOPE", full.foretold(CaveEchoes.SLOPE, 48), 49);
        Checks.due("the 49th by DELAY", full.foretold(CaveEchoes.DELAY, 48), 45);
    }

    private static int weighed(int first, int sample) {
        CaveEchoes cave = Caves.of(sample);
        cave.setWeight(1, first);
        return cave.foretold(CaveEchoes.WEIGHED, 1);
    }

    private static void promise23ByWeights() {
        Checks.due("(135 + 8) / 16", weighed(15, 9), 8);
        Checks.due("(-135 + 8) / 16, rounded down", weighed(15, -9), -8);
        Checks.due("(-136 + 8) / 16", weighed(17, -8), -8);
        Checks.due("(-137 + 8) / 16", weighed(-1, 1), 0);
        Checks.due("(-9 + 8) / 16, rounded down", weighed(-9, 1), -1);
        Checks.due("(-8 + 8) / 16", weighed(-8, 1), 0);
        Checks.due("too much", weighed(64, 99), 99);
        Checks.due("too little", weighed(64, -99), -99);
        CaveEchoes cave = Caves.of(1, 2, 3, 4, 5);
        cave.setSpeed(0);
        for (int weight = 1; weight <= 4; weight++) {
            cave.setWeight(weight, new int[] {10, -20, 40, 50}[weight - 1]);
        }
        // 10 * 5 - 20 * 4 + 40 * 3 + 50 * 2 + 8 = 198
        Checks.due("by four weights", cave.foretold(CaveEchoes.WEIGHED, 5), 12);
    }

    private static void promise24() {
        CaveEchoes cave = Caves.of(10, 20, 30, 38, -99);
        int[][] want = {{10, 20, 30, 38, -99}, {10, 10, 10, 8, -137}, {10, 0, 0, -2, -145},
            {10, 20, 30, 38, -109}, {10, 10, 9, 3, -149}};
        for (int kind = 0; kind < 5; kind++) {
            for (int number = 0; number < 5; number++) {
                String call = "leftOver(" + kind + ", " + number + ")";
                Checks.due(call, cave.leftOver(kind, number), want[kind][number]);
            }
        }
        Checks.due("the greatest", Caves.of(-99, 99).leftOver(CaveEchoes.LAST, 1), 198);
        Checks.due("the least", Caves.of(99, -99).leftOver(CaveEchoes.SLOPE, 1), -198);
    }

    private static void promise25() {
        CaveEchoes cave = Caves.of(10, 20, 30, 38, -99);
        int[] want = {197, 175, 157, 207, 181};
        for (int kind = 0; kind < 5; kind++) {
            Checks.due("sumOf(" + kind + ")", cave.sumOf(kind), want[kind]);
            Checks.due("sumOf(" + kind + "), none", new CaveEchoes().sumOf(kind), 0);
        }
        for (int wrong : new int[] {-1, 5, FAR[0], FAR[1]}) {
            Checks.refuses("sumOf(" + wrong + ")", ARGUMENT, Caves::rich, c -> c.sumOf(wrong));
        }
    }

    private static void promise26() {
        CaveEchoes cave = Caves.of(1, 2, 3, 1, 2, 3, -5);
        int[] want = {1 + 1 + 1 + 2 + 1 + 1 + 8, 1 + 2 + 2 + 1 + 1 + 2 + 7, 1 + 2 + 3 + 0 + 0 + 0 + 6};
        for (int delay = 1; delay <= 3; delay++) {
            Checks.due("sumWithDelay(" + delay + ")", cave.sumWithDelay(delay), want[delay - 1]);
        }
        Checks.due("sumWithDelay(12)", cave.sumWithDelay(12), 17);
        Checks.due("delay() stays", cave.delay(), 4);
        Checks.due("sumWithDelay(4)", cave.sumWithDelay(4), cave.sumOf(CaveEchoes.DELAY));
        for (int wrong : new int[] {0, 13, -1, FAR[0], FAR[1]}) {
            Checks.refuses("sumWithDelay(" + wrong + ")", ARGUMENT, Caves::rich, c -> c.sumWithDelay(wrong));
        }
    }

    private static void promise27() {
        Checks.due("bestDelay(), none", new CaveEchoes().bestDelay(), 1);
        Checks.due("bestDelay() of 3", Caves.of(10, -20, 30, 10, -20, 30, 10, -20, 30).bestDelay(), 3);
        Checks.due("bestDelay() of 12", Caves.of(90, -1, 0, 0, 0, 0, 0, 0, 0, 0, 0, 0, 90).bestDelay(), 12);
        // any delay from 2 on leaves the sum 3
        Checks.due("bestDelay(), of several", Caves.of(1, -1, 1).bestDelay(), 2);
        Checks.due("bestDelay(), all alike", Caves.of(5).bestDelay(), 1);
    }

    private static int leastSpeed(CaveEchoes cave) {
        int best = -1;
        int least = -1;
        for (int speed = 0; speed <= 3; speed++) {
            cave.setSpeed(speed);
            int sum = cave.sumOf(CaveEchoes.WEIGHED);
            if (best < 0 || sum < least) {
                best = speed;
                least = sum;
            }
        }
        return best;
    }

    private static void promise28() {
        Checks.due("bestSpeed(), none", new CaveEchoes().bestSpeed(), 0);
        Checks.due("bestSpeed(), all alike", Caves.of(5, 5, 5).bestSpeed(), 0);
        int[][] sounds = {{10, 20, 30, 38}, {10, 20, 40, 80}, {10, 20, 30, 38, -99, 60}, {10, -10, 10, -10, 10},
            {3, 6, 12, 24, 48, 96}, {20, 21, 22, 23, 24, 25}};
        int[] best = {2, 3, 2, 3, 3, 1};
        for (int i = 0; i < sounds.length; i++) {
            Checks.due("bestSpeed() of sound " + i, Caves.of(sounds[i]).bestSpeed(), best[i]);
            Checks.due("the same by setting it", leastSpeed(Caves.of(sounds[i])), best[i]);
        }
    }

    private static int leastFirst(CaveEchoes cave, int weight) {
        int best = 0;
        int least = -1;
        for (int value = -64; value <= 64; value += 8) {
            cave.setWeight(weight, value);
            int sum = cave.sumOf(CaveEchoes.WEIGHED);
            if (least < 0 || sum < least) {
                best = value;
                least = sum;
            }
        }
        return best;
    }

    private static void promise29() {
        Checks.due("bestFirst(1)", Caves.of(10, 20, 30, 38).bestFirst(1), 24);
        Checks.due("bestFirst() of the greatest", Caves.of(5, 30, 99).bestFirst(1), 64);
        int[][] sounds = {{}, {7}, {10, -20, 30, -38}, {50, 50, 50, 50, 50, 50}, {-9, 8, 77, 3, -60, 12, 1, 2}};
        for (int[] sound : sounds) {
            for (int weight = 1; weight <= 4; weight++) {
                CaveEchoes cave = Caves.of(sound);
                int before = cave.firstWeight(weight);
                int want = leastFirst(Caves.of(sound), weight);
                Checks.due("bestFirst(" + weight + ")", cave.bestFirst(weight), want);
                Checks.due("firstWeight() stays", cave.firstWeight(weight), before);
            }
        }
        Checks.due("bestFirst(), all alike", Caves.of(7).bestFirst(4), -64);
        for (int wrong : new int[] {0, 5, -1, FAR[0], FAR[1]}) {
            Checks.refuses("bestFirst(" + wrong + ")", ARGUMENT, Caves::rich, c -> c.bestFirst(wrong));
        }
    }

    private static void refuseNumbersAndKinds() {
        int[][] numbers = {{0, -1}, {4, 11}, {5, 11}, {-1, -1}, {2, FAR[0]}, {2, FAR[1]}, {FAR[0], FAR[1]}};
        for (int[] w : numbers) {
            Checks.refuses("foretold() wrongly", INDEX, Caves::rich, c -> c.foretold(w[0], w[1]));
            Checks.refuses("leftOver() wrongly", INDEX, Caves::rich, c -> c.leftOver(w[0], w[1]));
        }
        Checks.refuses("leftOver() of the next", INDEX, Caves::rich, c -> c.leftOver(0, 10));
        Checks.refuses("leftOver(0, 0), none", INDEX, Caves::bare, c -> c.leftOver(0, 0));
        Checks.refuses("foretold(0, 49)", INDEX, Caves::full, c -> c.foretold(0, 49));
        for (int kind : new int[] {-1, 5, FAR[0], FAR[1]}) {
            Checks.refuses("foretold(" + kind + ", 10)", ARGUMENT, Caves::rich, c -> c.foretold(kind, 10));
            Checks.refuses("leftOver(" + kind + ", 9)", ARGUMENT, Caves::rich, c -> c.leftOver(kind, 9));
        }
    }
}
