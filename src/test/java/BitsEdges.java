/** Edges of bits: their terms, and promises 30 to 37. */
final class BitsEdges extends Edge {
    private static final int SILENCE = CaveEchoes.SILENCE;
    private static final int LAST = CaveEchoes.LAST;
    private static final int SLOPE = CaveEchoes.SLOPE;
    private static final int DELAY = CaveEchoes.DELAY;
    private static final int WEIGHED = CaveEchoes.WEIGHED;
    private static final String NO_BLOCK = "Throws `IndexOutOfBoundsException` if there is no such block";
    private static final String NO_KIND = "Throws `IllegalArgumentException` if there is no such kind";
    private static final String KIND = "`kind`: SILENCE to WEIGHED";
    private static final String BLOCK = "`block`: its number";

    private BitsEdges() {
    }

    static void tell() {
        bitsOfLeftOvers();
        best();
        bitsWith();
        bitsWithRefuses();
        bestParameter();
        bestKind();
        whyBest();
        sums();
        blocksWith();
        bitsIfOnly();
    }

    /** Eight samples by LAST, eight by SILENCE and eight by SLOPE, and one that is louder. */
    private static CaveEchoes fourBlocks() {
        return Caves.of(50, 50, 50, 50, 50, 50, 50, 50, 0, 0, 0, 0, 0, 0, 0, 0, 9, 18, 27, 36, 45, 54, 63, 72, -99);
    }

    private static void refusesBlocks(String call, Bits bits) {
        for (int wrong : beyond(0, 1)) {
            refuses(INDEX, Caves::rich, call + " of the block " + wrong, c -> bits.of(c, wrong));
        }
        refuses(INDEX, Caves::bare, call + " of the block 0, none", c -> bits.of(c, 0));
        refuses(INDEX, c -> Caves.count(c, 8), call + " of the block 1 of 8 samples", c -> bits.of(c, 1));
        refuses(INDEX, Caves::full, call + " of the block 6", c -> bits.of(c, 6));
        due(call + " of the block 5", Checks.thrownBy(Caves.counting(41), c -> bits.of(c, 5)), null);
    }

    private interface Bits {
        int of(CaveEchoes cave, int block);
    }

    private static void bitsOfLeftOvers() {
        holds(TERMS, "A left-over r is folded: it is 2r if r is 0 or more, otherwise -2r minus 1.", () -> {
            int[] samples = {0, 1, -1, 2, -2, 99, -99};
            int[] folded = {0, 2, 1, 4, 3, 198, 197};
            for (int i = 0; i < samples.length; i++) {
                due("bits of " + samples[i], Caves.of(samples[i]).bitsWith(0, SILENCE, 0), folded[i] + 1 + 6);
            }
            due("bits of 198", Caves.of(-99, 99).bitsWith(0, LAST, 0), 197 + 1 + 396 + 1 + 6);
            due("bits of -198", Caves.of(99, -99).bitsWith(0, LAST, 0), 198 + 1 + 395 + 1 + 6);
        });
        holds(TERMS, "With a parameter p from 0 to 7 a folded left-over u needs u divided by 2 to the power of p, plus 1, plus p bits.", () -> {
            due("bits of the folded 0, parameter 0", Caves.of(0).bitsWith(0, SILENCE, 0), 0 + 1 + 0 + 6);
            due("bits of the folded 1, parameter 0", Caves.of(-1).bitsWith(0, SILENCE, 0), 1 + 1 + 0 + 6);
            for (int p = 1; p <= 7; p++) {
                int half = 1 << p - 1;
                due("bits of the folded 0", Caves.of(0).bitsWith(0, SILENCE, p), 0 + 1 + p + 6);
                // folded to one less than 2 to the power of p, and to just that
                due("bits of " + -half, Caves.of(-half).bitsWith(0, SILENCE, p), 0 + 1 + p + 6);
                due("bits of " + half, Caves.of(half).bitsWith(0, SILENCE, p), 1 + 1 + p + 6);
            }
        });
        holds(TERMS, "The bits of a block by a kind and a parameter are those of its left-overs, and 6 more.", () -> {
            due("bits of one sample", Caves.of(0).bitsWith(0, SILENCE, 0), 1 + 6);
            due("bits of eight samples", Caves.silent(8).bitsWith(0, SILENCE, 7), 8 * 8 + 6);
        });
    }

    private static void best() {
        holds(TERMS, "The best parameter for a block and a kind is the one with the fewest bits, of several the least", () -> {
            // folded 0, 2, 4, 100: 1 bit; 3 bits with 0 and 1; 4 with 1 and 2; 8 with 6 and 7
            int[] samples = {0, 1, 2, 50};
            int[] want = {0, 0, 1, 6};
            for (int i = 0; i < samples.length; i++) {
                due("bestParameter() of " + samples[i], Caves.of(samples[i]).bestParameter(0, SILENCE), want[i]);
            }
            due("bestParameter() of 198", Caves.of(-99, 99).bestParameter(0, LAST), 7);
        });
        String sentence = "the best kind for a block is the allowed kind with the fewest bits with its best parameter, of several the one with the lowest number.";
        holds(TERMS, sentence, () -> {
            due("bestKind(), all alike", Caves.of(1).bestKind(0), SILENCE);
            CaveEchoes fewer = with(Caves.of(1), c -> c.turnKind(SILENCE));
            due("bestKind(), all others alike", fewer.bestKind(0), LAST);
            fewer.turnKind(LAST);
            fewer.turnKind(SLOPE);
            due("bestKind(), two alike", fewer.bestKind(0), DELAY);
            due("bestKind(), as good as WEIGHED", Caves.of(50, 50, 50, 50, 50, 50).bestKind(0), LAST);
        });
        holds(TERMS, sentence, () -> {
            CaveEchoes cave = Caves.of(50, 50, 50, 50, 50, 50);
            cave.turnKind(LAST);
            due("bestKind() without LAST", cave.bestKind(0), WEIGHED);
            cave.turnKind(WEIGHED);
            // by SLOPE 50 and -49 are left over, by DELAY four times 50, by SILENCE six times
            due("bestKind() without WEIGHED", cave.bestKind(0), SLOPE);
        });
        holds(TERMS, sentence, () -> {
            // by SILENCE eight times 3 is left over, by DELAY once 20: with the parameter 0 DELAY would be better
            CaveEchoes cave = Caves.of(0, 0, 0, 0, -17, 3, 3, 3, 3, 3, 3, 3, 3, 3, 3, 3);
            Caves.allowOnly(cave, SILENCE);
            cave.turnKind(DELAY);
            due("bits by DELAY", cave.bitsWith(1, DELAY, 0), 41 + 7 + 6);
            due("bits by SILENCE", cave.bitsWith(1, SILENCE, 0), 8 * 7 + 6);
            due("bestKind(1)", cave.bestKind(1), SILENCE);
        });
        holds(TERMS, "All kinds are allowed at first.", () -> {
            due("allowed()", new CaveEchoes().allowed(), 31);
            CaveEchoes cave = fourBlocks();
            due("bestKind(0)", cave.bestKind(0), LAST);
            due("bestKind(1)", cave.bestKind(1), SILENCE);
            due("bestKind(2)", cave.bestKind(2), SLOPE);
        });
    }

    private static void bitsWith() {
        holds(30, "Returns the bits of a block by a kind and a parameter.", () -> {
            // by LAST 1, -2 and 1 are left over: folded 2, 3 and 2
            due("bitsWith(0, LAST, 0)", Caves.of(1, -1, 0).bitsWith(0, LAST, 0), 3 + 4 + 3 + 6);
            due("bitsWith(0, LAST, 1)", Caves.of(1, -1, 0).bitsWith(0, LAST, 1), 3 + 3 + 3 + 6);
            due("bitsWith() of a kind not allowed", Caves.only(DELAY, 1).bitsWith(0, SILENCE, 0), 9);
        });
        holds(30, BLOCK, () -> {
            CaveEchoes cave = Caves.silent(41);
            due("bitsWith(0, 0, 0)", cave.bitsWith(0, SILENCE, 0), 14);
            due("bitsWith(5, 0, 0)", cave.bitsWith(5, SILENCE, 0), 7);
        });
        holds(30, KIND, () -> {
            CaveEchoes cave = Caves.of(10, 11);
            due("bitsWith(0, SILENCE, 0)", cave.bitsWith(0, SILENCE, 0), 21 + 23 + 6);
            due("bitsWith(0, WEIGHED, 0)", cave.bitsWith(0, WEIGHED, 0), 21 + 3 + 6);
        });
        holds(30, "`parameter`: 0 to 7", () -> {
            due("bitsWith(0, 0, 0)", Caves.of(-99).bitsWith(0, SILENCE, 0), 197 + 1 + 6);
            due("bitsWith(0, 0, 7)", Caves.of(-99).bitsWith(0, SILENCE, 7), 1 + 1 + 7 + 6);
        });
        holds(30, "Returns the bits.", () -> {
            CaveEchoes loud = Caves.of(-99, 99, -99, 99, -99, 99, -99, 99);
            due("the most", loud.bitsWith(0, LAST, 0), 198 + 4 * 397 + 3 * 396 + 6);
        });
    }

    private static void bitsWithRefuses() {
        holds(30, NO_BLOCK, () -> refusesBlocks("bitsWith()", (c, block) -> c.bitsWith(block, SILENCE, 0)));
        holds(30, "Throws `IllegalArgumentException` if there is no such kind", () -> {
            for (int wrong : beyond(0, 4)) {
                refuses(ARGUMENT, Caves::rich, "bitsWith(0, " + wrong + ", 0)", c -> c.bitsWith(0, wrong, 0));
            }
        });
        holds(30, "or if parameter is out of range", () -> {
            for (int wrong : beyond(0, 7)) {
                refuses(ARGUMENT, Caves::rich, "bitsWith(0, 0, " + wrong + ")", c -> c.bitsWith(0, 0, wrong));
            }
            // shifts that Java takes for 0 and 1
            refuses(ARGUMENT, Caves::rich, "bitsWith(0, 0, 32)", c -> c.bitsWith(0, 0, 32));
            refuses(ARGUMENT, Caves::rich, "bitsWith(0, 0, 33)", c -> c.bitsWith(0, 0, 33));
        });
        holds(30, FIRST_OF_SEVERAL, () -> {
            refuses(INDEX, Caves::rich, "bitsWith(2, 5, 8)", c -> c.bitsWith(2, 5, 8));
            refuses(INDEX, Caves::rich, "bitsWith(-1, 0, 8)", c -> c.bitsWith(-1, 0, 8));
            refuses(INDEX, Caves::bare, "bitsWith(0, -1, 0)", c -> c.bitsWith(0, -1, 0));
        });
    }

    private static void bestParameter() {
        holds(31, "Returns the best parameter for a block and a kind.", () -> {
            CaveEchoes cave = Caves.of(50, 50, 50, 50, 50, 50, 50, 50);
            due("bestParameter(0, SILENCE)", cave.bestParameter(0, SILENCE), 6);
            // folded 100 once and 0 seven times: 49 bits with the parameter 2, 44 with 3 and 46 with 4
            due("bestParameter(0, LAST)", cave.bestParameter(0, LAST), 3);
            due("of a kind not allowed", Caves.only(DELAY, 50).bestParameter(0, SILENCE), 6);
        });
        holds(31, BLOCK, () -> {
            CaveEchoes cave = Caves.silent(41);
            cave.change(40, 50);
            due("bestParameter(0, 0)", cave.bestParameter(0, SILENCE), 0);
            due("bestParameter(5, 0)", cave.bestParameter(5, SILENCE), 6);
        });
        holds(31, KIND, () -> {
            CaveEchoes cave = Caves.of(0, 0, 0, 0, 0, 0, 0, 50, 50);
            due("bestParameter(1, SILENCE)", cave.bestParameter(1, SILENCE), 6);
            due("bestParameter(1, WEIGHED)", cave.bestParameter(1, WEIGHED), 0);
        });
        holds(31, "Returns the parameter.", () -> {
            due("the least", Caves.of(0).bestParameter(0, SILENCE), 0);
            due("the greatest", Caves.of(-99).bestParameter(0, SILENCE), 7);
        });
        holds(31, NO_BLOCK, () -> refusesBlocks("bestParameter()", (c, block) -> c.bestParameter(block, SILENCE)));
        holds(31, NO_KIND, () -> {
            for (int wrong : beyond(0, 4)) {
                refuses(ARGUMENT, Caves::rich, "bestParameter(1, " + wrong + ")", c -> c.bestParameter(1, wrong));
            }
        });
        holds(31, FIRST_OF_SEVERAL, () -> {
            refuses(INDEX, Caves::rich, "bestParameter(2, 5)", c -> c.bestParameter(2, 5));
            refuses(INDEX, Caves::bare, "bestParameter(0, -1)", c -> c.bestParameter(0, -1));
        });
    }

    private static void bestKind() {
        holds(32, "Returns the best kind for a block.", () -> {
            due("bestKind() of a straight line", Caves.of(9, 18, 27, 36, 45, 54, 63).bestKind(0), SLOPE);
            CaveEchoes again = Caves.of(70, -3, 44, -90, 70, -3, 44, -90, 70, -3, 44, -90);
            due("bestKind() of what comes again", again.bestKind(1), DELAY);
        });
        holds(32, BLOCK, () -> {
            CaveEchoes cave = Caves.silent(48);
            for (int number = 40; number < 48; number++) {
                cave.change(number, 50);
            }
            due("bestKind(0)", cave.bestKind(0), SILENCE);
            due("bestKind(5)", cave.bestKind(5), LAST);
        });
        holds(32, "Returns the kind.", () -> {
            for (int kind = 0; kind < 5; kind++) {
                due("bestKind(), the only one", Caves.only(kind, 99, -99, 5).bestKind(0), kind);
            }
        });
        holds(32, NO_BLOCK, () -> refusesBlocks("bestKind()", (c, block) -> c.bestKind(block)));
    }

    private static void whyBest() {
        holds(33, "Tells why the best kind of a block is the best.", () -> {
            CaveEchoes cave = Caves.of(50, 50, 50, 50, 50, 50);
            due("whyBest(), as good as WEIGHED", cave.whyBest(0), 3);
            cave.turnKind(WEIGHED);
            due("whyBest() without WEIGHED", cave.whyBest(0), 2);
            due("whyBest() of LAST alone", Caves.only(LAST, 50, 50).whyBest(0), 1);
        });
        holds(33, BLOCK, () -> {
            CaveEchoes cave = Caves.silent(48);
            cave.turnKind(DELAY);
            cave.turnKind(WEIGHED);
            for (int number = 40; number < 48; number++) {
                cave.change(number, 50);
            }
            due("whyBest(0), all alike", cave.whyBest(0), 3);
            due("whyBest(5), LAST ahead", cave.whyBest(5), 2);
        });
        holds(33, "Returns 1 if no other kind is allowed", () -> {
            for (int kind = 0; kind < 5; kind++) {
                due("whyBest(), all alike", Caves.only(kind, 4).whyBest(0), 1);
            }
            CaveEchoes two = with(Caves.only(SILENCE, 4), c -> c.turnKind(WEIGHED));
            due("whyBest() of two alike", two.whyBest(0), 3);
        });
        holds(33, "otherwise 2 if all other allowed kinds need more bits", () -> {
            CaveEchoes two = Caves.only(SILENCE, 0, 0, 0, 0, 0, 0, 0, 1, 0);
            two.turnKind(LAST);
            // 1 bit against 2, and 14 against 16 bits
            due("whyBest(1), 1 bit less", two.whyBest(1), 2);
            due("bits by LAST", two.bitsWith(1, LAST, 0) - two.bitsWith(1, SILENCE, 0), 1);
            two.change(8, 1);
            // 0 is left over by LAST then
            due("whyBest(1), LAST ahead", two.whyBest(1), 2);
        });
        holds(33, "otherwise 3.", () -> {
            CaveEchoes three = Caves.only(LAST, 50, 50, 50, 50, 50, 50);
            three.turnKind(SILENCE);
            due("whyBest(), SILENCE needs more", three.whyBest(0), 2);
            three.turnKind(WEIGHED);
            due("whyBest(), WEIGHED needs as many", three.whyBest(0), 3);
        });
        holds(33, NO_BLOCK, () -> refusesBlocks("whyBest()", (c, block) -> c.whyBest(block)));
    }

    private static void sums() {
        holds(34, "Returns the bits of all blocks by their best kinds and parameters, told block by block.", () -> {
            due("bits(), none", new CaveEchoes().bits(), 0);
            due("bits() of one block", Caves.of(1, -1, 0).bits(), 12);
            due("bits() of a block and one sample", Caves.silent(9).bits(), 14 + 7);
            due("bits() of 48", Caves.silent(48).bits(), 6 * 14);
            due("bits() by one kind alone", Caves.only(LAST, 0, 1).bits(), 1 + 3 + 6);
        });
        holds(35, "Returns the same, told by kinds: for each kind the bits of the blocks for which it is the best.", () -> {
            due("bitsByKinds(), none", new CaveEchoes().bitsByKinds(), 0);
            due("bitsByKinds() of one block", Caves.of(1, -1, 0).bitsByKinds(), 12);
            due("bitsByKinds() of 48", Caves.silent(48).bitsByKinds(), 6 * 14);
            CaveEchoes cave = fourBlocks();
            due("bitsByKinds() of four blocks", cave.bitsByKinds(), cave.bits());
            for (int kind = 0; kind < 5; kind++) {
                CaveEchoes only = Caves.only(kind, 0, 0, 0);
                due("bitsByKinds() of one kind alone", only.bitsByKinds(), 3 + 6);
            }
        });
    }

    private static void blocksWith() {
        holds(36, "Returns the number of blocks for which a kind is the best.", () -> {
            CaveEchoes cave = fourBlocks();
            due("blocksWith(LAST)", cave.blocksWith(LAST), 1);
            due("blocksWith(SLOPE)", cave.blocksWith(SLOPE), 1);
            due("blocksWith(DELAY)", cave.blocksWith(DELAY), 0);
        });
        holds(36, KIND, () -> {
            CaveEchoes cave = fourBlocks();
            due("blocksWith(SILENCE)", cave.blocksWith(SILENCE), 2);
            due("blocksWith(WEIGHED)", cave.blocksWith(WEIGHED), 0);
            due("blocksWith(WEIGHED), alone", Caves.only(WEIGHED, 5).blocksWith(WEIGHED), 1);
        });
        holds(36, "Returns the blocks.", () -> {
            for (int kind = 0; kind < 5; kind++) {
                due("blocksWith(" + kind + "), none", new CaveEchoes().blocksWith(kind), 0);
                CaveEchoes only = Caves.counting(48);
                Caves.allowOnly(only, kind);
                due("blocksWith(" + kind + ") of 48", only.blocksWith(kind), 6);
                due("blocksWith() of one that is not allowed", only.blocksWith((kind + 1) % 5), 0);
            }
        });
        holds(36, NO_KIND, () -> {
            for (int wrong : beyond(0, 4)) {
                refuses(ARGUMENT, Caves::rich, "blocksWith(" + wrong + ")", c -> c.blocksWith(wrong));
                refuses(ARGUMENT, Caves::bare, "blocksWith(" + wrong + ")", c -> c.blocksWith(wrong));
            }
        });
    }

    private static void bitsIfOnly() {
        holds(37, "Returns the bits that all blocks would need, if only one kind was allowed.", () -> {
            CaveEchoes cave = fourBlocks();
            for (int kind = 0; kind < 5; kind++) {
                CaveEchoes only = fourBlocks();
                Caves.allowOnly(only, kind);
                due("bitsIfOnly(" + kind + ")", cave.bitsIfOnly(kind), only.bits());
                due("allowed() stays", cave.allowed(), 31);
            }
            due("bitsIfOnly() of a kind not allowed", Caves.only(LAST, 0, 1).bitsIfOnly(SILENCE), 1 + 3 + 6);
        });
        holds(37, KIND, () -> {
            due("bitsIfOnly(SILENCE)", Caves.of(0, 1, 1).bitsIfOnly(SILENCE), 1 + 3 + 3 + 6);
            due("bitsIfOnly(WEIGHED)", Caves.of(0, 1, 1).bitsIfOnly(WEIGHED), 1 + 3 + 1 + 6);
        });
        holds(37, "Returns the bits.", () -> {
            for (int kind = 0; kind < 5; kind++) {
                due("bitsIfOnly(" + kind + "), none", new CaveEchoes().bitsIfOnly(kind), 0);
                due("bitsIfOnly(" + kind + ") of 48", Caves.silent(48).bitsIfOnly(kind), 6 * 14);
            }
        });
        holds(37, NO_KIND, () -> {
            for (int wrong : beyond(0, 4)) {
                refuses(ARGUMENT, Caves::rich, "bitsIfOnly(" + wrong + ")", c -> c.bitsIfOnly(wrong));
                refuses(ARGUMENT, Caves::bare, "bitsIfOnly(" + wrong + ")", c -> c.bitsIfOnly(wrong));
            }
        });
    }
}
