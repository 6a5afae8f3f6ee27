/** Promises 30 to 37: bits of blocks, best parameters and kinds, and why. */
public final class BitsTest {
    private static final Class<?> ARGUMENT = IllegalArgumentException.class;
    private static final Class<?> INDEX = IndexOutOfBoundsException.class;
    private static final int[] FAR = {Integer.MIN_VALUE, Integer.MAX_VALUE};

    public static void main(String[] args) {
        promise30();
        promise31();
        promise32();
        promise33();
        promises34And35();
        promise36();
        promise37();
        refuseBlocks();
        refuseKindsAndParameters();
        Checks.end("BitsTest");
    }

    private static void promise30() {
        // folded 2, 1 and 0
        CaveEchoes cave = Caves.of(1, -1, 0);
        int[] want = {3 + 2 + 1 + 6, 3 + 2 + 2 + 6, 3 * 3 + 6, 3 * 4 + 6, 3 * 5 + 6, 3 * 6 + 6, 3 * 7 + 6, 3 * 8 + 6};
        for (int parameter = 0; parameter <= 7; parameter++) {
            String call = "bitsWith(0, 0, " + parameter + ")";
            Checks.due(call, cave.bitsWith(0, CaveEchoes.SILENCE, parameter), want[parameter]);
        }
        // left-overs by LAST: 1, -2, 1, folded 2, 3 and 2
        Checks.due("bitsWith(0, 1, 0)", cave.bitsWith(0, CaveEchoes.LAST, 0), 3 + 4 + 3 + 6);
        CaveEchoes two = Caves.of(0, 0, 0, 0, 0, 0, 0, 9, -99);
        Checks.due("a whole block", two.bitsWith(0, CaveEchoes.SILENCE, 0), 7 + 19 + 6);
        Checks.due("the last block", two.bitsWith(1, CaveEchoes.SILENCE, 0), 198 + 6);
        Checks.due("the last block by LAST", two.bitsWith(1, CaveEchoes.LAST, 0), 216 + 6);
        Checks.due("the last block by LAST", two.bitsWith(1, CaveEchoes.LAST, 7), (215 >> 7) + 1 + 7 + 6);
        Checks.due("bits of a kind not allowed", Caves.only(3, 1).bitsWith(0, CaveEchoes.SILENCE, 0), 9);
    }

    private static void promise31() {
        // folded 2: 3 bits with the parameter 0, and 3 with 1
        Checks.due("bestParameter(), of several", Caves.of(1).bestParameter(0, 0), 0);
        // folded 100: 8 bits with the parameter 6, and 8 with 7
        Checks.due("bestParameter(), of several", Caves.of(50).bestParameter(0, 0), 6);
        // folded 4: 5 bits with the parameter 0, 4 with 1, and 4 with 2
        CaveEchoes changed = Caves.of(2);
        Checks.due("bestParameter(), of several", changed.bestParameter(0, 0), 1);
        changed.change(0, 0);
        Checks.due("bestParameter() of the changed", changed.bestParameter(0, 0), 0);
        Checks.due("bestParameter()", Caves.of(0, 0, 0, 0, 0, 0, 0, 3).bestParameter(0, 0), 0);
        Checks.due("bestParameter() of one block", Caves.of(0, 0, 0, 0, 0, 0, 0, 0, 10).bestParameter(1, 0), 3);
        Checks.due("bestParameter() of the greatest", Caves.of(-99, 99).bestParameter(0, 1), 7);
        Checks.due("bestParameter() of a kind not allowed", Caves.only(3, 50).bestParameter(0, 0), 6);
    }

    private static void promise32() {
        Checks.due("bestKind(), of several", Caves.of(1).bestKind(0), CaveEchoes.SILENCE);
        Checks.due("bestKind()", Caves.of(50, 50, 50, 50, 50, 50).bestKind(0), CaveEchoes.LAST);
        Checks.due("bestKind()", Caves.of(9, 18, 27, 36, 45, 54, 63).bestKind(0), CaveEchoes.SLOPE);
        CaveEchoes delayed = Caves.of(70, -3, 44, -90, 70, -3, 44, -90, 70, -3, 44, -90);
        Checks.due("bestKind() of the second block", delayed.bestKind(1), CaveEchoes.DELAY);
        CaveEchoes weighed = Caves.of(99, 50, 25, 12, 6, 3, 1, 0);
        weighed.setWeight(1, 8);
        weighed.setSpeed(0);
        Checks.due("bestKind()", weighed.bestKind(0), CaveEchoes.WEIGHED);
        CaveEchoes fewer = Caves.of(50, 50, 50, 50, 50, 50);
        fewer.turnKind(CaveEchoes.LAST);
        Checks.due("bestKind() without LAST", fewer.bestKind(0), CaveEchoes.WEIGHED);
        for (int kind = 0; kind < 5; kind++) {
            Checks.due("bestKind(), the only one", Caves.only(kind, 99, -99, 5).bestKind(0), kind);
        }
    }

    private static void promise33() {
        for (int kind = 0; kind < 5; kind++) {
            Checks.due("whyBest(), the only one", Caves.only(kind, 4).whyBest(0), 1);
        }
        CaveEchoes cave = Caves.of(50, 50, 50, 50, 50, 50);
        Checks.due("whyBest(), as good as WEIGHED", cave.whyBest(0), 3);
        cave.turnKind(CaveEchoes.WEIGHED);
        Checks.due("whyBest(), without WEIGHED", cave.whyBest(0), 2);
        CaveEchoes two = Caves.only(CaveEchoes.SILENCE, 1);
        two.turnKind(CaveEchoes.DELAY);
        Checks.due("whyBest(), as good as DELAY", two.whyBest(0), 3);
        two.add(1);
        two.add(1);
        two.add(1);
        two.add(1);
        Checks.due("whyBest(), DELAY ahead", two.whyBest(0), 2);
    }

    private static CaveEchoes threeBlocks() {
        return Caves.of(50, 50, 50, 50, 50, 50, 50, 50, 0, 0, 0, 0, 0, 0, 0, 0, 9, 18, 27, 36, 45, 54, 63, 72);
    }

    private static void promises34And35() {
        Checks.due("bits(), none", new CaveEchoes().bits(), 0);
        Checks.due("bitsByKinds(), none", new CaveEchoes().bitsByKinds(), 0);
        // folded 2, 1 and 0 by SILENCE: 12; all other kinds need more
        Checks.due("bits()", Caves.of(1, -1, 0).bits(), 12);
        Checks.due("bitsByKinds()", Caves.of(1, -1, 0).bitsByKinds(), 12);
        CaveEchoes cave = threeBlocks();
        int sum = 0;
        for (int block = 0; block < 3; block++) {
            int kind = cave.bestKind(block);
            sum += cave.bitsWith(block, kind, cave.bestParameter(block, kind));
        }
        Checks.due("bits() of three blocks", cave.bits(), sum);
        Checks.due("bitsByKinds() of three blocks", cave.bitsByKinds(), sum);
        // a block of nothing: 8 left-overs of one bit, and 6 bits
        Checks.due("bits() of silence", Caves.of(0, 0, 0, 0, 0, 0, 0, 0).bits(), 14);
        CaveEchoes full = Checks.make(Caves::full);
        Checks.due("the same, full", full.bitsByKinds(), full.bits());
        CaveEchoes fewer = Caves.only(CaveEchoes.DELAY, 50, 50, 50, 50);
        Checks.due("bits(), one kind allowed", fewer.bits(), fewer.bitsIfOnly(CaveEchoes.DELAY));
    }

    private static void promise36() {
        CaveEchoes cave = threeBlocks();
        int[] want = {1, 1, 1, 0, 0};
        for (int kind = 0; kind < 5; kind++) {
            Checks.due("blocksWith(" + kind + ")", cave.blocksWith(kind), want[kind]);
            Checks.due("blocksWith(" + kind + "), none", new CaveEchoes().blocksWith(kind), 0);
            CaveEchoes only = Caves.only(kind, 1, 2, 3, 4, 5, 6, 7, 8, 9);
            Checks.due("blocksWith() of the only one", only.blocksWith(kind), 2);
            Checks.due("blocksWith() of another", only.blocksWith((kind + 1) % 5), 0);
        }
    }

    private static void promise37() {
        CaveEchoes cave = Caves.of(1, -1, 0, 0, 0, 0, 0, 0, 50);
        // with the parameters 0 and 6
        Checks.due("bitsIfOnly(0)", cave.bitsIfOnly(CaveEchoes.SILENCE), 3 + 2 + 6 + 6 + 8 + 6);
        for (int kind = 0; kind < 5; kind++) {
            CaveEchoes only = Caves.only(kind, 1, -1, 0, 0, 0, 0, 0, 0, 50);
            Checks.due("bitsIfOnly(" + kind + ")", cave.bitsIfOnly(kind), only.bits());
            Checks.due("bitsIfOnly() though not allowed", only.bitsIfOnly(0), 31);
            Checks.due("bitsIfOnly(" + kind + "), none", new CaveEchoes().bitsIfOnly(kind), 0);
        }
    }

    private static void refuseBlocks() {
        for (int block : new int[] {-1, 2, 6, FAR[0], FAR[1]}) {
            Checks.refuses("bestKind(" + block + ")", INDEX, Caves::rich, c -> c.bestKind(block));
            Checks.refuses("whyBest(" + block + ")", INDEX, Caves::rich, c -> c.whyBest(block));
            Checks.refuses("bestParameter() wrongly", INDEX, Caves::rich, c -> c.bestParameter(block, 0));
            Checks.refuses("bestParameter() all wrongly", INDEX, Caves::rich, c -> c.bestParameter(block, 5));
            Checks.refuses("bitsWith() wrongly", INDEX, Caves::rich, c -> c.bitsWith(block, 0, 0));
            Checks.refuses("bitsWith() all wrongly", INDEX, Caves::rich, c -> c.bitsWith(block, -1, 8));
        }
        Checks.refuses("bestKind(0), none", INDEX, Caves::bare, c -> c.bestKind(0));
        Checks.refuses("bestKind(6), full", INDEX, Caves::full, c -> c.bestKind(6));
        Checks.refuses("bestKind(1) of 8 samples", INDEX, c -> Checks.sound(c, 1, 2, 3, 4, 5, 6, 7, 8), c -> c.bestKind(1));
    }

    private static void refuseKindsAndParameters() {
        for (int kind : new int[] {-1, 5, FAR[0], FAR[1]}) {
            Checks.refuses("bestParameter(0, " + kind + ")", ARGUMENT, Caves::rich, c -> c.bestParameter(0, kind));
            Checks.refuses("bitsWith(0, " + kind + ", 0)", ARGUMENT, Caves::rich, c -> c.bitsWith(0, kind, 0));
            Checks.refuses("blocksWith(" + kind + ")", ARGUMENT, Caves::rich, c -> c.blocksWith(kind));
            Checks.refuses("bitsIfOnly(" + kind + ")", ARGUMENT, Caves::rich, c -> c.bitsIfOnly(kind));
        }
        for (int parameter : new int[] {-1, 8, 32, FAR[0], FAR[1]}) {
            Checks.refuses("bitsWith(0, 0, " + parameter + ")", ARGUMENT, Caves::rich, c -> c.bitsWith(0, 0, parameter));
        }
    }
}
