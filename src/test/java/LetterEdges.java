/** Edges of letters: their terms, and promises 11, 12 and 38 to 50. */
final class LetterEdges extends Edge {
    private static final int SILENCE = CaveEchoes.SILENCE;
    private static final int LAST = CaveEchoes.LAST;
    private static final int SLOPE = CaveEchoes.SLOPE;
    private static final int DELAY = CaveEchoes.DELAY;
    private static final int WEIGHED = CaveEchoes.WEIGHED;
    private static final String NO_SAMPLE = "Throws `IndexOutOfBoundsException` if there is no letter, or no such sample in it";
    private static final String NO_BLOCK = "Throws `IndexOutOfBoundsException` if there is no letter, or no such block in it";
    private static final String NUMBER = "`number`: number of a sample of the letter";
    private static final String BLOCK = "`block`: its number";

    private LetterEdges() {
    }

    static void tell() {
        letters();
        bits();
        reader();
        readersWeights();
        stays();
        send();
        tamper();
        tamperRefuses();
        told();
        letterKindAndParameter();
        letterLeft();
        letterBits();
        letterBit();
        heard();
        unlike();
        harm();
        worst();
        lettersSent();
    }

    private interface Asked {
        void of(CaveEchoes cave, int number);
    }

    /** 10 samples in the letter, and more or fewer in the sound then. */
    private static void refusesSamples(String call, Asked asked) {
        refuses(INDEX, Caves::full, call + " of 0, no letter", c -> asked.of(c, 0));
        refuses(INDEX, Caves::bare, call + " of 0, nothing at all", c -> asked.of(c, 0));
        for (int wrong : beyond(0, 9)) {
            refuses(INDEX, Caves::rich, call + " of " + wrong, c -> asked.of(c, wrong));
        }
        refuses(INDEX, c -> with(c, Caves::rich).add(1), call + " of what came later", c -> asked.of(c, 10));
        refuses(INDEX, Caves::fullAndSent, call + " of 48", c -> asked.of(c, 48));
        CaveEchoes emptied = with(Checks.make(Caves::rich), CaveEchoes::empty);
        due(call + " of 9, emptied", Checks.thrownBy(emptied, c -> asked.of(c, 9)), null);
    }

    private static void refusesBlocks(String call, Asked asked) {
        refuses(INDEX, Caves::full, call + " of 0, no letter", c -> asked.of(c, 0));
        refuses(INDEX, Caves::bare, call + " of 0, nothing at all", c -> asked.of(c, 0));
        for (int wrong : beyond(0, 1)) {
            refuses(INDEX, Caves::rich, call + " of the block " + wrong, c -> asked.of(c, wrong));
        }
        refuses(INDEX, c -> sent(with(c, d -> Caves.count(d, 8))), call + " of 1 of 8 samples", c -> asked.of(c, 1));
        refuses(INDEX, c -> {
            Caves.rich(c);
            Caves.count(c, 9);
        }, call + " of a block that came later", c -> asked.of(c, 2));
        refuses(INDEX, Caves::fullAndSent, call + " of the block 6", c -> asked.of(c, 6));
        CaveEchoes emptied = with(Checks.make(Caves::rich), CaveEchoes::empty);
        due(call + " of 1, emptied", Checks.thrownBy(emptied, c -> asked.of(c, 1)), null);
    }

    private static void letters() {
        String sentence = "When the sound is sent, a letter tells it: the delay, the speed and the first weights as they are then, and for each block its best kind, its best parameter, and its left-overs by that kind.";
        holds(TERMS, sentence, () -> {
            CaveEchoes cave = sent(Caves.only(DELAY, 7, 8, 9, 10, 7, 8));
            cave.setDelay(1);
            heard(cave, 7, 8, 9, 10, 7, 8);
        });
        holds(TERMS, sentence, () -> {
            CaveEchoes cave = sent(Caves.only(WEIGHED, 10, 20, 30, -40));
            cave.setSpeed(3);
            heard(cave, 10, 20, 30, -40);
        });
        holds(TERMS, sentence, () -> {
            for (int weight = 1; weight <= 4; weight++) {
                CaveEchoes cave = Caves.only(WEIGHED, 10, 20, 30, -40, 50, 60);
                cave.setWeight(weight, 9);
                cave.send();
                cave.setWeight(weight, -64);
                heard(cave, 10, 20, 30, -40, 50, 60);
            }
        });
        holds(TERMS, sentence, () -> {
            CaveEchoes cave = sent(Caves.of(50, 50, 50, 50, 50, 50, 50, 50, 0, 0));
            cave.turnKind(LAST);
            due("letterKind(0)", cave.letterKind(0), LAST);
            due("letterParameter(0)", cave.letterParameter(0), 3);
            due("letterLeft(0)", cave.letterLeft(0), 50);
            due("letterLeft(7)", cave.letterLeft(7), 0);
            due("letterKind(1)", cave.letterKind(1), SILENCE);
            due("letterParameter(1)", cave.letterParameter(1), 0);
            due("letterLeft(8), by SILENCE", cave.letterLeft(8), 0);
        });
        holds(TERMS, "There is no letter at first.", () -> {
            CaveEchoes cave = Caves.of(1);
            due("told()", cave.told(), 0);
            due("letterBits()", cave.letterBits(), 0);
            due("sent()", cave.sent(), 0);
            due("letterKind(0) throws", Checks.thrownBy(cave, c -> c.letterKind(0)), INDEX);
        });
    }

    private static void bits() {
        String sentence = "The letter as bits tells, for each block: the kind in 3 bits, the parameter p in 3 bits, the highest bit first, and then, for each left-over, folded to u: as many ones as u divided by 2 to the power of p, a nothing (0), and what is left of u in p bits, the highest one first.";
        holds(TERMS, sentence, () -> {
            String[] kinds = {"000", "001", "010", "011", "100"};
            for (int kind = 0; kind < 5; kind++) {
                letter(sent(Caves.only(kind, 1)), kinds[kind] + "000 110");
            }
        });
        holds(TERMS, sentence, () -> {
            letter(sent(Caves.of(2)), "000 001 110 0");
            letter(sent(Caves.of(6)), "000 011 10 100");
            letter(sent(Caves.of(12)), "000 100 10 1000");
            letter(sent(Caves.of(50)), "000 110 10 100100");
            letter(sent(Caves.of(-99)), "000 111 10 1000101");
        });
        holds(TERMS, sentence, () -> {
            letter(sent(Caves.of(1, -1, 0)), "000 000 110 10 0");
            letter(sent(Caves.of(0, 0, 0, 0, 0, 0, 0, 0, 1)), "000 000 00000000 000 000 110");
        });
        holds(TERMS, sentence, () -> {
            // less than 2 to the power of 6, just that, and the most
            int[] lefts = {0, -32, 32, 198, -198};
            String[] told = {"0 000000", "0 111111", "10 000000", "1111110 001100", "1111110 001011"};
            CaveEchoes cave = sent(Caves.of(50));
            for (int i = 0; i < lefts.length; i++) {
                cave.tamper(0, lefts[i]);
                letter(cave, "000 110" + told[i]);
            }
        });
    }

    private static void reader() {
        String sentence = "The reader hears sample by sample: what is foretold by the kind of the block (with the delay, the speed and the weights of the letter, from the samples that were heard, the weights adapted by these), plus the left-over, but at most 99, and at least -99.";
        holds(TERMS, sentence, () -> {
            CaveEchoes cave = sent(Caves.only(SILENCE, 1, 2));
            int[] lefts = {99, 100, 198, -99, -100, -198};
            int[] want = {99, 99, 99, -99, -99, -99};
            for (int i = 0; i < lefts.length; i++) {
                cave.tamper(0, lefts[i]);
                heard(cave, want[i], 2);
            }
        });
        holds(TERMS, sentence, () -> {
            CaveEchoes cave = sent(Caves.only(LAST, 10, 20, 30));
            cave.tamper(0, 15);
            heard(cave, 15, 25, 35);
            cave.tamper(0, 198);
            heard(cave, 99, 99, 99);
            cave.tamper(1, -198);
            heard(cave, 99, -99, -89);
        });
        holds(TERMS, sentence, () -> {
            CaveEchoes cave = sent(Caves.only(SLOPE, 10, 20, 30));
            cave.tamper(0, 60);
            // 99 is foretold, and then 2 times 99 less 60, which is 99 at most
            heard(cave, 60, 99, 99);
            CaveEchoes delayed = sent(Caves.only(DELAY, 1, 2, 3, 4, 1, 2));
            delayed.tamper(1, -7);
            heard(delayed, 1, -7, 3, 4, 1, -7);
        });
        holds(TERMS, sentence, () -> {
            // the first block by LAST, the second by SILENCE
            CaveEchoes cave = sent(Caves.of(50, 50, 50, 50, 50, 50, 50, 50, 0, 0));
            cave.tamper(7, 9);
            heard(cave, 50, 50, 50, 50, 50, 50, 50, 59, 0, 0);
        });
    }

    private static void readersWeights() {
        String sentence = "from the samples that were heard, the weights adapted by these";
        holds(TERMS, sentence, () -> {
            CaveEchoes cave = sent(Caves.only(WEIGHED, 10, 20, 30));
            // left-overs 10, 10, 9; now nothing is left over of the second, and the weight 1 stays 16
            cave.tamper(1, 0);
            heard(cave, 10, 10, 19);
            // 15 times -20, and 8, divided by 16 is -19, rounded down
            cave.tamper(1, -30);
            heard(cave, 10, -20, -10);
        });
        holds(TERMS, sentence, () -> {
            CaveEchoes cave = sent(Caves.only(WEIGHED, 10, 20, 30, 40));
            cave.tamper(0, 99);
            // 99 is foretold and 99 is heard, so that the weights stay, whatever the letter says
            cave.tamper(1, 60);
            cave.tamper(2, -49);
            // the weight 1 is 15 then, the weight 2 is -1: 41 and the left-over 5
            heard(cave, 99, 99, 50, 46);
        });
        holds(TERMS, sentence, () -> {
            // the weights adapt in a block by LAST, and a block by WEIGHED follows
            int[] sound = {77, 77, -18, -18, -18, -18, -18, -18, -62, -54, -46, -38};
            CaveEchoes cave = Caves.of(sound);
            cave.turnKind(SILENCE);
            cave.turnKind(SLOPE);
            cave.turnKind(DELAY);
            due("weightAt(1, 8)", cave.weightAt(1, 8), 14);
            cave.send();
            due("letterKind(0)", cave.letterKind(0), LAST);
            due("letterKind(1)", cave.letterKind(1), WEIGHED);
            heard(cave, sound);
        });
    }

    private static void stays() {
        holds(TERMS, "The letter, and what was sent by it, stay when the sound changes.", () -> {
            CaveEchoes cave = sent(Caves.only(LAST, 10, 20, 30));
            cave.change(0, -99);
            cave.drop();
            heard(cave, 10, 20, 30);
            due("unlike()", cave.unlike(), 0);
            cave.empty();
            heard(cave, 10, 20, 30);
            due("unlike(), emptied", cave.unlike(), 0);
            Caves.count(cave, 48);
            heard(cave, 10, 20, 30);
            due("harm(0), another sound", cave.harm(0), 3);
            due("sent()", cave.sent(), 1);
        });
    }

    private static void send() {
        holds(11, "Sends the sound: a letter tells it, in place of the one before.", () -> {
            CaveEchoes cave = sent(Caves.counting(48));
            cave.empty();
            cave.add(1);
            cave.send();
            heard(cave, 1);
            letter(cave, "000 000 110");
            due("letterKind(1) throws", Checks.thrownBy(cave, c -> c.letterKind(1)), INDEX);
            due("letterLeft(1) throws", Checks.thrownBy(cave, c -> c.letterLeft(1)), INDEX);
        });
        holds(11, "in place of the one before", () -> {
            CaveEchoes cave = sent(Caves.only(LAST, 10, 20));
            cave.tamper(1, 0);
            cave.send();
            due("letterLeft(1), told anew", cave.letterLeft(1), 10);
            due("unlike()", cave.unlike(), 0);
        });
        holds(11, "Undoable.", () -> {
            undoes(Caves::rich, "send()", CaveEchoes::send);
            undoes(Caves::full, "send() of the first letter", CaveEchoes::send);
        });
        holds(11, "Returns the number of bits of the letter.", () -> {
            due("send() of one", Caves.of(0).send(), 7);
            due("send() of a block", Caves.silent(8).send(), 14);
            due("send() of a block and one", Caves.silent(9).send(), 14 + 7);
            due("send() of 48", Caves.silent(48).send(), 6 * 14);
        });
        holds(11, "Throws `IllegalStateException` if the sound is empty", () -> {
            refuses(STATE, Caves::bare, "send(), new", CaveEchoes::send);
            refuses(STATE, c -> with(c, Caves::rich).empty(), "send(), emptied", CaveEchoes::send);
            refuses(STATE, c -> sent(with(c, d -> d.add(1))).drop(), "send(), dropped", CaveEchoes::send);
        });
    }

    private static void tamper() {
        holds(12, "Changes a left-over of the letter.", () -> {
            CaveEchoes cave = sent(Caves.only(LAST, 10, 20, 30));
            cave.tamper(1, -5);
            due("letterLeft(0)", cave.letterLeft(0), 10);
            due("letterLeft(1)", cave.letterLeft(1), -5);
            due("letterLeft(2)", cave.letterLeft(2), 10);
            samples(cave, 10, 20, 30);
        });
        holds(12, "Undoable.", () -> undoes(Caves::rich, "tamper(1, 1)", c -> c.tamper(1, 1)));
        holds(12, NUMBER, () -> {
            CaveEchoes cave = sent(Caves.counting(48));
            cave.tamper(0, 100);
            cave.tamper(47, -100);
            due("letterLeft(0)", cave.letterLeft(0), 100);
            due("letterLeft(47)", cave.letterLeft(47), -100);
        });
        holds(12, "`left`: -198 to 198", () -> {
            CaveEchoes cave = sent(Caves.of(1));
            cave.tamper(0, -198);
            due("letterLeft(0), the least", cave.letterLeft(0), -198);
            cave.tamper(0, 198);
            due("letterLeft(0), the greatest", cave.letterLeft(0), 198);
        });
        holds(12, "Returns the left-over before.", () -> {
            CaveEchoes cave = sent(Caves.of(5));
            due("tamper(0, -198)", cave.tamper(0, -198), 5);
            due("tamper(0, 198)", cave.tamper(0, 198), -198);
            due("tamper(0, 198) again", cave.tamper(0, 198), 198);
        });
    }

    private static void tamperRefuses() {
        holds(12, NO_SAMPLE, () -> refusesSamples("tamper()", (c, number) -> c.tamper(number, 0)));
        holds(12, "Throws `IllegalArgumentException` if left is out of range", () -> {
            for (int wrong : beyond(-198, 198)) {
                refuses(ARGUMENT, Caves::rich, "tamper(0, " + wrong + ")", c -> c.tamper(0, wrong));
            }
        });
        holds(12, FIRST_OF_SEVERAL, () -> {
            refuses(INDEX, Caves::rich, "tamper(10, 199)", c -> c.tamper(10, 199));
            refuses(INDEX, Caves::full, "tamper(0, -199), no letter", c -> c.tamper(0, -199));
        });
    }

    private static void told() {
        holds(38, "Returns the number of samples that the letter tells; 0 if there is no letter.", () -> {
            due("told(), new", new CaveEchoes().told(), 0);
            due("told(), nothing was sent", Caves.counting(48).told(), 0);
            due("told() of one", sent(Caves.of(5)).told(), 1);
            due("told() of 48", sent(Caves.counting(48)).told(), 48);
            due("told(), one more in the sound", with(sent(Caves.of(5)), c -> c.add(1)).told(), 1);
            due("told(), emptied", with(sent(Caves.of(5)), CaveEchoes::empty).told(), 1);
            due("told(), undone", with(sent(Caves.of(5)), CaveEchoes::undo).told(), 0);
        });
    }

    private static void letterKindAndParameter() {
        holds(39, "Returns the kind of a block of the letter.",
                () -> due("letterKind(0)", sent(Caves.of(9, 18, 27, 36, 45)).letterKind(0), SLOPE));
        holds(39, BLOCK, () -> {
            CaveEchoes cave = sent(with(Caves.silent(40), c -> c.echo(8, 1, 1)));
            due("letterKind(5)", cave.letterKind(5), SILENCE);
            CaveEchoes loud = Caves.silent(48);
            for (int number = 40; number < 48; number++) {
                loud.change(number, 50);
            }
            loud.send();
            due("letterKind(0)", loud.letterKind(0), SILENCE);
            due("letterKind(5)", loud.letterKind(5), LAST);
        });
        holds(39, "Returns the kind.", () -> {
            for (int kind = 0; kind < 5; kind++) {
                due("letterKind(0)", sent(Caves.only(kind, 5)).letterKind(0), kind);
            }
        });
        holds(39, NO_BLOCK, () -> refusesBlocks("letterKind()", CaveEchoes::letterKind));
        holds(40, "Returns the parameter of a block of the letter.",
                () -> due("letterParameter(0)", sent(Caves.of(50)).letterParameter(0), 6));
        holds(40, BLOCK, () -> {
            CaveEchoes cave = Caves.silent(41);
            cave.change(40, 50);
            cave.send();
            due("letterParameter(0)", cave.letterParameter(0), 0);
            due("letterParameter(5)", cave.letterParameter(5), 6);
        });
        holds(40, "Returns the parameter.", () -> {
            due("the least", sent(Caves.of(0)).letterParameter(0), 0);
            due("the greatest", sent(Caves.of(-99)).letterParameter(0), 7);
            // it does not follow a left-over that is tampered with
            due("the least, tampered", with(sent(Caves.of(0)), c -> c.tamper(0, 198)).letterParameter(0), 0);
        });
        holds(40, NO_BLOCK, () -> refusesBlocks("letterParameter()", CaveEchoes::letterParameter));
    }

    private static void letterLeft() {
        holds(41, "Returns a left-over of the letter, as it is now.", () -> {
            CaveEchoes cave = sent(Caves.only(LAST, 10, 25));
            due("letterLeft(1)", cave.letterLeft(1), 15);
            cave.tamper(1, -3);
            due("letterLeft(1), tampered", cave.letterLeft(1), -3);
        });
        holds(41, NUMBER, () -> {
            CaveEchoes cave = sent(Caves.only(SILENCE, 4, 5));
            due("letterLeft(0)", cave.letterLeft(0), 4);
            due("letterLeft(1)", cave.letterLeft(1), 5);
            CaveEchoes full = Caves.silent(48);
            Caves.allowOnly(full, SILENCE);
            full.change(47, 7);
            due("letterLeft(47)", sent(full).letterLeft(47), 7);
        });
        holds(41, "Returns the left-over.", () -> {
            due("the greatest", sent(Caves.only(LAST, -99, 99)).letterLeft(1), 198);
            due("the least", sent(Caves.only(LAST, 99, -99)).letterLeft(1), -198);
        });
        holds(41, NO_SAMPLE, () -> refusesSamples("letterLeft()", CaveEchoes::letterLeft));
    }

    private static void letterBits() {
        holds(42, "Returns the number of bits of the letter, as it is now; 0 if there is none.", () -> {
            due("letterBits(), new", new CaveEchoes().letterBits(), 0);
            due("letterBits(), nothing was sent", Caves.counting(48).letterBits(), 0);
            CaveEchoes cave = sent(Caves.silent(9));
            due("letterBits()", cave.letterBits(), 14 + 7);
            cave.tamper(8, 1);
            due("letterBits(), tampered", cave.letterBits(), 14 + 9);
            cave.empty();
            due("letterBits(), emptied", cave.letterBits(), 14 + 9);
        });
        holds(42, "as it is now", () -> {
            CaveEchoes most = sent(Caves.silent(48));
            for (int number = 0; number < 48; number++) {
                most.tamper(number, 198);
            }
            due("letterBits(), the most", most.letterBits(), 48 * 397 + 6 * 6);
        });
    }

    private static void letterBit() {
        holds(43, "Tells whether a bit of the letter is a one.", () -> letter(sent(Caves.of(1, -1, 0)), "000 000 110 10 0"));
        holds(43, "`bit`: its number, from 0", () -> {
            CaveEchoes cave = sent(Caves.only(WEIGHED, 1));
            due("letterBit(0)", cave.letterBit(0), true);
            due("letterBit(1)", cave.letterBit(1), false);
            due("letterBit() of the last", cave.letterBit(cave.letterBits() - 1), false);
            CaveEchoes odd = sent(Caves.of(-99));
            due("letterBit() of the last", odd.letterBit(odd.letterBits() - 1), true);
        });
        holds(43, "Returns whether it is.", () -> {
            CaveEchoes most = sent(Caves.silent(48));
            for (int number = 0; number < 48; number++) {
                most.tamper(number, 198);
            }
            due("the last bit of the longest letter", most.letterBit(48 * 397 + 35), false);
            due("the bit ahead of it", most.letterBit(48 * 397 + 34), true);
            due("the bit behind it throws", Checks.thrownBy(most, c -> c.letterBit(48 * 397 + 36)), INDEX);
        });
        holds(43, "Throws `IndexOutOfBoundsException` if there is no such bit", () -> {
            refuses(INDEX, Caves::bare, "letterBit(0), no letter", c -> c.letterBit(0));
            refuses(INDEX, Caves::full, "letterBit(0), nothing was sent", c -> c.letterBit(0));
            int bits = Checks.make(Caves::rich).letterBits();
            for (int wrong : beyond(0, bits - 1)) {
                refuses(INDEX, Caves::rich, "letterBit(" + wrong + ")", c -> c.letterBit(wrong));
            }
            refuses(INDEX, c -> sent(with(c, d -> d.add(1))).tamper(0, 0), "letterBit(7) of 7", c -> c.letterBit(7));
        });
    }

    private static void heard() {
        holds(44, "Returns a sample that the reader hears, told by reading the left-overs of the letter.", () -> {
            CaveEchoes cave = sent(Caves.only(LAST, 10, 20, 30));
            cave.tamper(1, -5);
            due("heard(1)", cave.heard(1), 5);
            due("heard(2)", cave.heard(2), 15);
        });
        holds(44, NUMBER, () -> {
            CaveEchoes cave = sent(Caves.counting(48));
            due("heard(0)", cave.heard(0), 1);
            due("heard(47)", cave.heard(47), 48);
        });
        holds(44, "Returns the sample.", () -> due("heard(1)", sent(Caves.of(-99, 99)).heard(1), 99));
        holds(44, NO_SAMPLE, () -> refusesSamples("heard()", CaveEchoes::heard));
        holds(45, "Returns the same, told by reading the letter bit by bit.", () -> {
            for (int kind = 0; kind < 5; kind++) {
                CaveEchoes cave = sent(Caves.only(kind, 10, 20, -30, 0, 99, -99, 7, 5, 50, 50));
                cave.tamper(1, 198);
                cave.tamper(5, -198);
                cave.tamper(8, 0);
                for (int number = 0; number < 10; number++) {
                    due("heardByBits(" + number + ")", cave.heardByBits(number), cave.heard(number));
                }
            }
        });
        holds(45, NUMBER, () -> {
            CaveEchoes cave = sent(Caves.counting(48));
            due("heardByBits(0)", cave.heardByBits(0), 1);
            due("heardByBits(47)", cave.heardByBits(47), 48);
        });
        holds(45, "Returns the sample.", () -> due("heardByBits(1)", sent(Caves.of(-99, 99)).heardByBits(1), 99));
        holds(45, NO_SAMPLE, () -> refusesSamples("heardByBits()", CaveEchoes::heardByBits));
    }

    private static void unlike() {
        holds(46, "Returns the number of samples that are heard unlike those that were sent.", () -> {
            due("unlike(), no letter", Caves.of(1).unlike(), 0);
            CaveEchoes cave = sent(Caves.only(LAST, 10, 20, 30));
            due("unlike(), none", cave.unlike(), 0);
            cave.tamper(2, 9);
            due("unlike(), the last", cave.unlike(), 1);
            cave.tamper(0, 9);
            due("unlike(), all", cave.unlike(), 3);
            CaveEchoes full = sent(Caves.only(SILENCE, new int[48]));
            for (int number = 0; number < 48; number++) {
                full.tamper(number, 1);
            }
            due("unlike() of 48", full.unlike(), 48);
        });
        holds(46, "heard unlike those that were sent", () -> {
            // what is too great is heard as 99, and so it was sent
            CaveEchoes loud = sent(Caves.only(SILENCE, 99, 5));
            loud.tamper(0, 198);
            due("unlike(), 99 at most", loud.unlike(), 0);
        });
        holds(47, "Returns the number of the first sample that is heard unlike the one that was sent; NONE if there is none.", () -> {
            due("firstUnlike(), no letter", Caves.of(1).firstUnlike(), -1);
            CaveEchoes cave = sent(Caves.only(SILENCE, 10, 20, 30));
            due("firstUnlike(), none", cave.firstUnlike(), -1);
            cave.tamper(2, 9);
            due("firstUnlike(), the last", cave.firstUnlike(), 2);
            cave.tamper(1, 9);
            due("firstUnlike(), of two", cave.firstUnlike(), 1);
            cave.tamper(0, 9);
            due("firstUnlike(), all", cave.firstUnlike(), 0);
            cave.empty();
            due("firstUnlike(), emptied", cave.firstUnlike(), 0);
        });
    }

    private static void harm() {
        holds(48, "Returns how many samples would be heard unlike those that were sent, if a left-over of the letter was 1 more.", () -> {
            CaveEchoes cave = sent(Caves.only(LAST, 10, 20, 30));
            due("harm(0)", cave.harm(0), 3);
            due("harm(1)", cave.harm(1), 2);
            due("letterLeft(0) stays", cave.letterLeft(0), 10);
            due("unlike() stays", cave.unlike(), 0);
            // 1 more makes good what is 1 too little
            cave.tamper(0, 9);
            due("harm(0), tampered", cave.harm(0), 0);
            due("harm(1), tampered", cave.harm(1), 1);
        });
        holds(48, "if a left-over of the letter was 1 more", () -> {
            CaveEchoes loud = sent(Caves.only(SILENCE, 99, -99));
            due("harm(0), 99 at most", loud.harm(0), 0);
            due("harm(1), -98", loud.harm(1), 1);
            loud.tamper(1, -198);
            due("harm(1), -197 is heard as -99", loud.harm(1), 0);
            loud.tamper(0, 198);
            due("harm(0) of 199", loud.harm(0), 0);
            loud.tamper(1, 198);
            due("harm(1) of 199", loud.harm(1), 1);
            // 0 and 1 more, where the sign changes
            CaveEchoes silence = sent(Caves.only(SILENCE, 0, -1));
            due("harm(0) of 0", silence.harm(0), 1);
            due("harm(1) of -1", silence.harm(1), 1);
        });
        holds(48, NUMBER, () -> {
            CaveEchoes cave = Caves.counting(48);
            Caves.allowOnly(cave, LAST);
            cave.send();
            due("harm(0)", cave.harm(0), 48);
            due("harm(47)", cave.harm(47), 1);
        });
        holds(48, "Returns the samples.", () -> due("harm(0)", sent(Caves.of(5)).harm(0), 1));
        holds(48, NO_SAMPLE, () -> refusesSamples("harm()", CaveEchoes::harm));
    }

    private static void worst() {
        holds(49, "Returns the sample of the letter with the greatest harm(), of several the lowest; NONE if there is no letter.", () -> {
            due("worst(), new", new CaveEchoes().worst(), -1);
            due("worst(), nothing was sent", Caves.counting(48).worst(), -1);
            due("worst(), the first", sent(Caves.only(LAST, 10, 20, 30)).worst(), 0);
            due("worst(), the last", sent(Caves.only(SILENCE, 99, 99, 5)).worst(), 2);
            due("worst(), emptied", with(sent(Caves.only(SILENCE, 99, 5)), CaveEchoes::empty).worst(), 1);
        });
        holds(49, "of several the lowest", () -> {
            due("worst(), all alike", sent(Caves.only(SILENCE, 5, 5, 5)).worst(), 0);
            due("worst(), two alike", sent(Caves.only(SILENCE, 99, 5, 5)).worst(), 1);
            due("worst(), no harm at all", sent(Caves.only(SILENCE, 99, 99)).worst(), 0);
        });
    }

    private static void lettersSent() {
        holds(50, "Returns how many letters were sent so far.", () -> {
            CaveEchoes cave = Caves.of(1);
            due("sent(), none", cave.sent(), 0);
            cave.send();
            cave.send();
            due("sent(), the same twice", cave.sent(), 2);
            cave.tamper(0, 5);
            cave.empty();
            due("sent(), emptied", cave.sent(), 2);
            due("send() throws", Checks.thrownBy(cave, CaveEchoes::send), STATE);
            due("sent(), one refused", cave.sent(), 2);
            cave.add(3);
            Checks.text(cave, "s;s");
            cave.doWorks();
            due("sent() by works", cave.sent(), 4);
            cave.undo();
            due("sent(), undone", cave.sent(), 2);
        });
    }
}
