/** Edges of foretelling: its terms, and promises 21 to 29. */
final class ForetellingEdges extends Edge {
    private static final int SILENCE = CaveEchoes.SILENCE;
    private static final int LAST = CaveEchoes.LAST;
    private static final int SLOPE = CaveEchoes.SLOPE;
    private static final int DELAY = CaveEchoes.DELAY;
    private static final int WEIGHED = CaveEchoes.WEIGHED;

    private ForetellingEdges() {
    }

    static void tell() {
        kinds();
        weighed();
        limits();
        weights();
        weightsGrow();
        weightAt();
        weightByCounting();
        foretold();
        leftOver();
        sums();
        bestDelay();
        bestSpeed();
        bestFirst();
    }

    private static void foretold(CaveEchoes cave, int kind, int number, int want) {
        due("foretold(" + kind + ", " + number + ")", cave.foretold(kind, number), want);
    }

    private static void weights(CaveEchoes cave, int number, int... want) {
        for (int weight = 1; weight <= 4; weight++) {
            String at = "(" + weight + ", " + number + ")";
            due("weightAt" + at, cave.weightAt(weight, number), want[weight - 1]);
            due("weightByCounting" + at, cave.weightByCounting(weight, number), want[weight - 1]);
        }
    }

    private static CaveEchoes slow(int weight, int value, int... samples) {
        CaveEchoes cave = Caves.of(samples);
        cave.setSpeed(0);
        cave.setWeight(1, 0);
        cave.setWeight(weight, value);
        return cave;
    }

    private static void kinds() {
        holds(TERMS, "There are five kinds of foretelling the sample t, each from the samples ahead of it alone", () -> {
            for (int kind = 0; kind < 5; kind++) {
                CaveEchoes one = Caves.of(10, 20, 30, 38, 5, 7, 9);
                CaveEchoes other = Caves.of(10, 20, 30, 38, 5, -99);
                due("foretold(" + kind + ", 5)", other.foretold(kind, 5), one.foretold(kind, 5));
            }
        });
        holds(TERMS, "SILENCE (0): 0.", () -> {
            foretold(new CaveEchoes(), SILENCE, 0, 0);
            foretold(Caves.of(99), SILENCE, 1, 0);
            foretold(Caves.counting(48), SILENCE, 48, 0);
        });
        holds(TERMS, "LAST (1): the sample t minus 1.", () -> {
            foretold(Caves.of(9, -9), LAST, 1, 9);
            foretold(Caves.of(9, -9), LAST, 2, -9);
            foretold(Caves.counting(48), LAST, 48, 48);
        });
        holds(TERMS, "SLOPE (2): 2 times the sample t minus 1, less the sample t minus 2.", () -> {
            foretold(Caves.of(10, 25), SLOPE, 1, 20);
            foretold(Caves.of(10, 25), SLOPE, 2, 40);
            foretold(Caves.counting(48), SLOPE, 48, 49);
        });
        holds(TERMS, "DELAY (3): the sample t minus the delay, which is from 1 to 12 (at first 4).", () -> {
            CaveEchoes cave = Caves.counting(13);
            foretold(cave, DELAY, 13, 10);
            cave.setDelay(1);
            foretold(cave, DELAY, 13, 13);
            cave.setDelay(12);
            foretold(cave, DELAY, 13, 2);
            foretold(cave, DELAY, 12, 1);
        });
        holds(TERMS, "The left-over of a sample is the sample less what was foretold.", () -> {
            due("leftOver(LAST, 1)", Caves.of(10, 4).leftOver(LAST, 1), -6);
            due("leftOver(LAST, 1)", Caves.of(-10, -4).leftOver(LAST, 1), 6);
            due("leftOver(LAST, 1)", Caves.of(10, 10).leftOver(LAST, 1), 0);
        });
    }

    private static void weighed() {
        String sentence = "WEIGHED (4): the sum, over k from 1 to 4, of the weight k as it is ahead of the sample t times the sample t minus k, plus 8, divided by 16.";
        holds(TERMS, sentence, () -> {
            // (7 + 8) / 16, (8 + 8) / 16, and so on
            int[] samples = {7, 8, 23, 24, -8, -9, -24, -25};
            int[] want = {0, 1, 1, 2, 0, -1, -1, -2};
            for (int i = 0; i < samples.length; i++) {
                foretold(slow(1, 1, samples[i]), WEIGHED, 1, want[i]);
            }
        });
        holds(TERMS, sentence, () -> {
            for (int weight = 1; weight <= 4; weight++) {
                CaveEchoes cave = slow(weight, 64, 16, 0, 0, 0, 0);
                for (int number = 0; number <= 5; number++) {
                    foretold(cave, WEIGHED, number, number == weight ? 64 : 0);
                }
            }
        });
        holds(TERMS, sentence, () -> {
            // behind the sample 1 the weight 1 is 17
            foretold(Caves.of(10, 20), WEIGHED, 2, (17 * 20 + 8) / 16);
            foretold(Caves.of(10, 10), WEIGHED, 2, 10);
        });
    }

    private static void limits() {
        String sentence = "What is foretold is at most 99, and at least -99.";
        holds(TERMS, sentence, () -> {
            int[][] sounds = {{2, 50}, {1, 50}, {0, 50}, {-99, 99}, {-2, -50}, {-1, -50}, {0, -50}, {99, -99}};
            int[] want = {98, 99, 99, 99, -98, -99, -99, -99};
            for (int i = 0; i < sounds.length; i++) {
                foretold(Caves.of(sounds[i]), SLOPE, 2, want[i]);
            }
        });
        holds(TERMS, sentence, () -> {
            // (17 * 92 + 8) / 16 is 98, then 99 and 100; and the same below 0
            int[] samples = {92, 93, 94, 99, -92, -93, -94, -99};
            int[] want = {98, 99, 99, 99, -98, -99, -99, -99};
            for (int i = 0; i < samples.length; i++) {
                foretold(slow(1, 17, samples[i]), WEIGHED, 1, want[i]);
            }
            foretold(slow(4, -64, 99, 0, 0, 0), WEIGHED, 4, -99);
        });
    }

    private static void weights() {
        holds(TERMS, "Each weight has a first value from -64 to 64 (at first 16 for the weight 1, 0 for the others), which it has ahead of the sample 0.", () -> {
            weights(new CaveEchoes(), 0, 16, 0, 0, 0);
            CaveEchoes cave = Caves.of(99, -99);
            cave.setWeight(1, -64);
            cave.setWeight(2, 64);
            cave.setWeight(4, -1);
            weights(cave, 0, -64, 64, 0, -1);
        });
        String sentence = "Behind each sample t, whatever kinds are used, if its left-over by WEIGHED is not 0, each weight k for which the sample t minus k is not 0 becomes greater by the speed, if both have the same sign, and less by the speed, if not.";
        holds(TERMS, sentence, () -> {
            // 10 is foretold: 0, 1 and -1 are left over
            weights(Caves.of(10, 10), 2, 16, 0, 0, 0);
            weights(Caves.of(10, 11), 2, 17, 0, 0, 0);
            weights(Caves.of(10, 9), 2, 15, 0, 0, 0);
        });
        holds(TERMS, sentence, () -> {
            weights(Caves.of(0, 5), 2, 16, 0, 0, 0);
            weights(Caves.of(1, 5), 2, 17, 0, 0, 0);
            weights(Caves.of(-1, 5), 2, 15, 0, 0, 0);
        });
        holds(TERMS, sentence, () -> {
            weights(Caves.of(10, 20), 2, 17, 0, 0, 0);
            weights(Caves.of(-10, -20), 2, 17, 0, 0, 0);
            weights(Caves.of(10, -20), 2, 15, 0, 0, 0);
            weights(Caves.of(-10, 20), 2, 15, 0, 0, 0);
        });
        holds(TERMS, sentence, () -> {
            // the sample 4 has an own sign ahead of it for each weight
            CaveEchoes cave = Caves.of(-9, 0, 9, -9, 9);
            int[] before = new int[4];
            for (int weight = 1; weight <= 4; weight++) {
                before[weight - 1] = cave.weightAt(weight, 4);
            }
            due("leftOver(WEIGHED, 4) above 0", cave.leftOver(WEIGHED, 4) > 0, true);
            weights(cave, 5, before[0] - 1, before[1] + 1, before[2], before[3] - 1);
        });
        holds(TERMS, sentence, () -> weights(Caves.only(SILENCE, 10, 20), 2, 17, 0, 0, 0));
        holds(TERMS, "The speed is from 0 to 3, at first 1.", () -> {
            CaveEchoes cave = Caves.of(10, 20);
            weights(cave, 2, 17, 0, 0, 0);
            cave.setSpeed(0);
            weights(cave, 2, 16, 0, 0, 0);
            cave.setSpeed(3);
            weights(cave, 2, 19, 0, 0, 0);
            cave.change(1, -20);
            weights(cave, 2, 13, 0, 0, 0);
        });
    }

    /** First values have limits, and weights that adapt have none. */
    private static void weightsGrow() {
        String sentence = "becomes greater by the speed, if both have the same sign, and less by the speed, if not";
        holds(TERMS, sentence, () -> {
            CaveEchoes cave = Caves.of(1, 99);
            cave.setWeight(1, 64);
            cave.setSpeed(3);
            weights(cave, 2, 67, 0, 0, 0);
            cave.setWeight(1, -64);
            cave.change(1, -99);
            weights(cave, 2, -67, 0, 0, 0);
        });
        holds(TERMS, sentence, () -> {
            // -4 is foretold for -5, then (67 * 5 + 8) / 16, which is 21, for 22
            CaveEchoes cave = Caves.of(1, -5, 22);
            cave.setWeight(1, -64);
            cave.setSpeed(3);
            weights(cave, 3, -70, 3, 0, 0);
            foretold(cave, WEIGHED, 3, -97);
        });
    }

    private static void weightAt() {
        holds(21, "Returns a weight as it is ahead of a sample, told by adapting it sample by sample.", () -> {
            CaveEchoes cave = Caves.of(10, 20, 30);
            due("weightAt(1, 1)", cave.weightAt(1, 1), 16);
            due("weightAt(1, 2)", cave.weightAt(1, 2), 17);
            due("weightAt(1, 3)", cave.weightAt(1, 3), 18);
        });
        holds(21, "`weight`: 1 to 4", () -> {
            CaveEchoes cave = Caves.of(10, 0, 0, 0, 20);
            due("weightAt(1, 5)", cave.weightAt(1, 5), 15);
            due("weightAt(4, 5)", cave.weightAt(4, 5), 1);
        });
        holds(21, "`number`: 0 up to the number of samples", () -> {
            due("weightAt(1, 0), none", new CaveEchoes().weightAt(1, 0), 16);
            due("weightAt(1, 2) of 2", Caves.of(10, 20).weightAt(1, 2), 17);
            CaveEchoes full = Caves.silent(48);
            full.change(46, 10);
            full.change(47, 20);
            due("weightAt(1, 48) of 48", full.weightAt(1, 48), 17);
        });
        holds(21, "Returns the value.", () -> due("weightAt(2, 3)", Caves.of(10, 20, 30).weightAt(2, 3), 1));
        holds(21, "Throws `IndexOutOfBoundsException` if number is out of range", () -> {
            for (int wrong : beyond(0, 10)) {
                refuses(INDEX, Caves::rich, "weightAt(1, " + wrong + ")", c -> c.weightAt(1, wrong));
            }
            refuses(INDEX, Caves::bare, "weightAt(1, 1), none", c -> c.weightAt(1, 1));
            refuses(INDEX, Caves::full, "weightAt(4, 49)", c -> c.weightAt(4, 49));
        });
        holds(21, "Throws `IllegalArgumentException` if weight is out of range", () -> {
            for (int wrong : beyond(1, 4)) {
                refuses(ARGUMENT, Caves::rich, "weightAt(" + wrong + ", 10)", c -> c.weightAt(wrong, 10));
            }
        });
        holds(21, FIRST_OF_SEVERAL, () -> {
            refuses(INDEX, Caves::rich, "weightAt(0, 11)", c -> c.weightAt(0, 11));
            refuses(INDEX, Caves::bare, "weightAt(5, -1)", c -> c.weightAt(5, -1));
        });
    }

    private static void weightByCounting() {
        holds(22, "Returns the same, told by counting: the first value, plus the speed times how often it became greater less how often it became less.", () -> {
            CaveEchoes cave = Caves.of(10, 20, 30);
            cave.setSpeed(3);
            cave.setWeight(1, -64);
            // what is foretold is below 0, so that what is left over is above 0
            due("weightByCounting(1, 3)", cave.weightByCounting(1, 3), -64 + 3 * 2);
            due("weightByCounting(1, 1)", cave.weightByCounting(1, 1), -64);
            cave.setSpeed(0);
            due("weightByCounting(1, 3), speed 0", cave.weightByCounting(1, 3), -64);
            // 10 is foretold for 20, and (17 * 20 + 8) / 16, which is 21, for -5
            due("weightByCounting(1, 3), once greater and once less", Caves.of(10, 20, -5).weightByCounting(1, 3), 16);
        });
        holds(22, "`weight`: 1 to 4", () -> {
            CaveEchoes cave = Caves.of(10, 0, 0, 0, 20);
            due("weightByCounting(1, 5)", cave.weightByCounting(1, 5), 15);
            due("weightByCounting(4, 5)", cave.weightByCounting(4, 5), 1);
        });
        holds(22, "`number`: 0 up to the number of samples", () -> {
            due("weightByCounting(1, 0), none", new CaveEchoes().weightByCounting(1, 0), 16);
            due("weightByCounting(1, 2) of 2", Caves.of(10, 20).weightByCounting(1, 2), 17);
            CaveEchoes full = Caves.silent(48);
            full.change(46, 10);
            full.change(47, 20);
            due("weightByCounting(1, 48) of 48", full.weightByCounting(1, 48), 17);
        });
        holds(22, "Returns the value.", () -> due("weightByCounting(2, 3)", Caves.of(10, 20, 30).weightByCounting(2, 3), 1));
        holds(22, "Throws `IndexOutOfBoundsException` if number is out of range", () -> {
            for (int wrong : beyond(0, 10)) {
                refuses(INDEX, Caves::rich, "weightByCounting(1, " + wrong + ")", c -> c.weightByCounting(1, wrong));
            }
            refuses(INDEX, Caves::bare, "weightByCounting(1, 1), none", c -> c.weightByCounting(1, 1));
            refuses(INDEX, Caves::full, "weightByCounting(4, 49)", c -> c.weightByCounting(4, 49));
        });
        holds(22, "Throws `IllegalArgumentException` if weight is out of range", () -> {
            for (int wrong : beyond(1, 4)) {
                refuses(ARGUMENT, Caves::rich, "weightByCounting(" + wrong + ", 0)", c -> c.weightByCounting(wrong, 0));
            }
        });
        holds(22, FIRST_OF_SEVERAL, () -> {
            refuses(INDEX, Caves::rich, "weightByCounting(0, 11)", c -> c.weightByCounting(0, 11));
            refuses(INDEX, Caves::bare, "weightByCounting(5, -1)", c -> c.weightByCounting(5, -1));
        });
    }

    private static void foretold() {
        holds(23, "Returns what is foretold for a sample.", () -> {
            CaveEchoes cave = Caves.of(10, 25, -3);
            int[] want = {0, 25, 40, 0, 27};
            for (int kind = 0; kind < 5; kind++) {
                foretold(cave, kind, 2, want[kind]);
            }
        });
        holds(23, "`kind`: SILENCE to WEIGHED", () -> {
            foretold(Caves.of(10), SILENCE, 1, 0);
            foretold(Caves.of(10), WEIGHED, 1, 10);
        });
        holds(23, "`number`: 0 up to the number of samples (the next one)", () -> {
            for (int kind = 0; kind < 5; kind++) {
                foretold(new CaveEchoes(), kind, 0, 0);
            }
            CaveEchoes full = Caves.silent(48);
            full.change(47, 10);
            full.change(44, 3);
            // behind the sample 45 the weight 1 is 15
            int[] want = {0, 10, 20, 3, 9};
            for (int kind = 0; kind < 5; kind++) {
                foretold(full, kind, 48, want[kind]);
            }
        });
        holds(23, "Returns what is foretold.", () -> foretold(Caves.of(-7), LAST, 1, -7));
        holds(23, "Throws `IndexOutOfBoundsException` if number is out of range", () -> {
            for (int wrong : beyond(0, 10)) {
                refuses(INDEX, Caves::rich, "foretold(1, " + wrong + ")", c -> c.foretold(1, wrong));
            }
            refuses(INDEX, Caves::bare, "foretold(0, 1), none", c -> c.foretold(0, 1));
            refuses(INDEX, Caves::full, "foretold(4, 49)", c -> c.foretold(4, 49));
        });
        holds(23, "Throws `IllegalArgumentException` if there is no such kind", () -> {
            for (int wrong : beyond(0, 4)) {
                refuses(ARGUMENT, Caves::rich, "foretold(" + wrong + ", 10)", c -> c.foretold(wrong, 10));
            }
        });
        holds(23, FIRST_OF_SEVERAL, () -> {
            refuses(INDEX, Caves::rich, "foretold(5, 11)", c -> c.foretold(5, 11));
            refuses(INDEX, Caves::bare, "foretold(-1, -1)", c -> c.foretold(-1, -1));
        });
    }

    private static void leftOver() {
        holds(24, "Returns the left-over of a sample.", () -> {
            CaveEchoes cave = Caves.of(10, 25, -3);
            int[] want = {-3, -28, -43, -3, -30};
            for (int kind = 0; kind < 5; kind++) {
                due("leftOver(" + kind + ", 2)", cave.leftOver(kind, 2), want[kind]);
            }
        });
        holds(24, "`kind`: SILENCE to WEIGHED", () -> {
            due("leftOver(SILENCE, 1)", Caves.of(10, 15).leftOver(SILENCE, 1), 15);
            due("leftOver(WEIGHED, 1)", Caves.of(10, 15).leftOver(WEIGHED, 1), 5);
        });
        holds(24, "`number`: its number", () -> {
            due("leftOver(LAST, 0)", Caves.of(10, 15).leftOver(LAST, 0), 10);
            due("leftOver(LAST, 47)", Caves.counting(48).leftOver(LAST, 47), 1);
        });
        holds(24, "Returns the left-over.", () -> {
            due("the greatest", Caves.of(-99, 99).leftOver(LAST, 1), 198);
            due("the least", Caves.of(99, -99).leftOver(LAST, 1), -198);
        });
        holds(24, "Throws `IndexOutOfBoundsException` if there is no such sample", () -> {
            for (int wrong : beyond(0, 9)) {
                refuses(INDEX, Caves::rich, "leftOver(1, " + wrong + ")", c -> c.leftOver(1, wrong));
            }
            refuses(INDEX, Caves::bare, "leftOver(0, 0), none", c -> c.leftOver(0, 0));
            refuses(INDEX, Caves::full, "leftOver(4, 48)", c -> c.leftOver(4, 48));
        });
        holds(24, "Throws `IllegalArgumentException` if there is no such kind", () -> {
            for (int wrong : beyond(0, 4)) {
                refuses(ARGUMENT, Caves::rich, "leftOver(" + wrong + ", 9)", c -> c.leftOver(wrong, 9));
            }
        });
        holds(24, FIRST_OF_SEVERAL, () -> {
            refuses(INDEX, Caves::rich, "leftOver(5, 10)", c -> c.leftOver(5, 10));
            refuses(INDEX, Caves::bare, "leftOver(-1, 0)", c -> c.leftOver(-1, 0));
        });
    }

    private static void sums() {
        holds(25, "Returns the sum of the sizes of all left-overs by a kind.", () -> {
            due("sumOf(SILENCE)", Caves.of(-99, 99, -1).sumOf(SILENCE), 199);
            due("sumOf(LAST)", Caves.of(-99, 99, -1).sumOf(LAST), 99 + 198 + 100);
            due("sumOf(LAST) of 48", Caves.counting(48).sumOf(LAST), 48);
        });
        holds(25, "`kind`: SILENCE to WEIGHED", () -> {
            due("sumOf(SILENCE)", Caves.of(10, 15).sumOf(SILENCE), 25);
            due("sumOf(WEIGHED)", Caves.of(10, 15).sumOf(WEIGHED), 15);
        });
        holds(25, "Returns the sum.", () -> {
            for (int kind = 0; kind < 5; kind++) {
                due("sumOf(" + kind + "), none", new CaveEchoes().sumOf(kind), 0);
            }
        });
        holds(25, "Throws `IllegalArgumentException` if there is no such kind", () -> {
            for (int wrong : beyond(0, 4)) {
                refuses(ARGUMENT, Caves::rich, "sumOf(" + wrong + ")", c -> c.sumOf(wrong));
            }
        });
        holds(26, "Returns the sum of the sizes of all left-overs that there would be by DELAY with another delay.", () -> {
            CaveEchoes cave = Caves.of(1, -2, 3, -4, 5);
            due("sumWithDelay(2)", cave.sumWithDelay(2), 1 + 2 + 2 + 2 + 2);
            due("sumWithDelay(4), the delay as it is", cave.sumWithDelay(4), cave.sumOf(DELAY));
            due("delay() stays", cave.delay(), 4);
        });
        holds(26, "`delay`: 1 to 12", () -> {
            CaveEchoes cave = Caves.counting(13);
            due("sumWithDelay(1)", cave.sumWithDelay(1), 13);
            due("sumWithDelay(12)", cave.sumWithDelay(12), 12 * 13 / 2 + 12);
        });
        holds(26, "Returns the sum.", () -> due("sumWithDelay(12), none", new CaveEchoes().sumWithDelay(12), 0));
        holds(26, "Throws `IllegalArgumentException` if delay is out of range", () -> {
            for (int wrong : beyond(1, 12)) {
                refuses(ARGUMENT, Caves::rich, "sumWithDelay(" + wrong + ")", c -> c.sumWithDelay(wrong));
            }
        });
    }

    private static void bestDelay() {
        holds(27, "Returns the delay with the least sumWithDelay(), of several the least.", () -> {
            due("bestDelay() of 12", Caves.of(90, 0, 0, 0, 0, 0, 0, 0, 0, 0, 0, 0, 90).bestDelay(), 12);
            due("bestDelay() of 1", Caves.of(5, 5).bestDelay(), 1);
            due("bestDelay() of what comes again behind 13", Caves.of(90, 0, 0, 0, 0, 0, 0, 0, 0, 0, 0, 0, 0, 90).bestDelay(), 1);
            due("bestDelay() does not look at the delay", with(Caves.of(5, 5), c -> c.setDelay(9)).bestDelay(), 1);
        });
        holds(27, "of several the least", () -> {
            due("bestDelay(), none", new CaveEchoes().bestDelay(), 1);
            due("bestDelay(), all alike", Caves.of(5).bestDelay(), 1);
            // 36 and 27 are left over, then 18 from the delay 3 on
            due("bestDelay(), from 3 on alike", Caves.of(9, -9, 0).bestDelay(), 3);
        });
    }

    private static void bestSpeed() {
        holds(28, "Returns the speed with which the sum of the sizes of all left-overs by WEIGHED would be the least, of several the least.", () -> {
            // 80, 73, 64 and 57 are left over
            CaveEchoes cave = Caves.of(10, 20, 40, 80);
            due("bestSpeed() of 3", cave.bestSpeed(), 3);
            due("speed() stays", cave.speed(), 1);
            cave.setSpeed(0);
            due("bestSpeed() does not look at the speed", cave.bestSpeed(), 3);
        });
        holds(28, "of several the least", () -> {
            due("bestSpeed(), none", new CaveEchoes().bestSpeed(), 0);
            due("bestSpeed(), all alike", Caves.of(5, 5, 5).bestSpeed(), 0);
            CaveEchoes fast = with(Caves.of(5, 5, 5), c -> c.setSpeed(3));
            due("bestSpeed(), all alike, speed 3", fast.bestSpeed(), 0);
        });
    }

    private static void bestFirst() {
        holds(29, "Returns the first value of a weight, of -64, -56, -48, and so on up to 64, with which the sum of the sizes of all left-overs by WEIGHED would be the least.", () -> {
            due("bestFirst(1), the greatest", Caves.of(5, 30, 99).bestFirst(1), 64);
            due("bestFirst(1), the least", Caves.of(5, -30, 99).bestFirst(1), -64);
            // 14 is foretold with 56, and 16 with 64
            due("bestFirst(1), the greatest but one", Caves.of(4, 14).bestFirst(1), 56);
            due("bestFirst(1), the least but one", Caves.of(4, -14).bestFirst(1), -56);
            CaveEchoes cave = with(Caves.of(4, 14), c -> c.setWeight(1, 5));
            due("bestFirst(1) does not look at the first value", cave.bestFirst(1), 56);
            due("firstWeight(1) stays", cave.firstWeight(1), 5);
        });
        holds(29, "with which the sum of the sizes of all left-overs by WEIGHED would be the least", () -> {
            // the sample ahead and as much as the weight is foretold, so that 32 makes 48 of 16
            CaveEchoes second = with(Caves.of(16, 16, 48), c -> c.setSpeed(0));
            due("bestFirst(1), then another", second.bestFirst(1), 16);
            due("bestFirst(2) beside the weight 1", second.bestFirst(2), 32);
            CaveEchoes third = with(Caves.of(16, 16, 16, 48), c -> c.setSpeed(0));
            due("bestFirst(3) beside the weight 1", third.bestFirst(3), 32);
            // 2 times the weight 1, less 16, is foretold for the last sample
            CaveEchoes first = with(Caves.of(16, 0, 0, 32, 16), c -> c.setSpeed(0));
            first.setWeight(4, -16);
            due("bestFirst(1) beside the weight 4", first.bestFirst(1), 16);
        });
        holds(29, "`weight`: 1 to 4", () -> {
            due("bestFirst(1)", Caves.of(4, 16).bestFirst(1), 64);
            CaveEchoes far = Caves.of(4, 0, 0, 0, 16);
            due("bestFirst(4)", far.bestFirst(4), 64);
        });
        holds(29, "Returns the value, of several the least.", () -> {
            for (int weight = 1; weight <= 4; weight++) {
                due("bestFirst(" + weight + "), none", new CaveEchoes().bestFirst(weight), -64);
                due("bestFirst(" + weight + "), all alike", Caves.of(7).bestFirst(weight), -64);
            }
            // 16 is foretold with 16, and 24 with 24
            due("bestFirst(1), two alike", Caves.of(16, 20).bestFirst(1), 16);
        });
        holds(29, "Throws `IllegalArgumentException` if weight is out of range", () -> {
            for (int wrong : beyond(1, 4)) {
                refuses(ARGUMENT, Caves::rich, "bestFirst(" + wrong + ")", c -> c.bestFirst(wrong));
            }
        });
    }
}
