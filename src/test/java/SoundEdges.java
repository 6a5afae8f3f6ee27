/** Edges of the sound: its terms, and promises 1 to 10 and 13 to 20. */
final class SoundEdges extends Edge {
    private static final String RANGE = "Throws `IllegalArgumentException` if sample is out of range";
    private static final String AN_ARGUMENT = "Throws `IllegalArgumentException` if an argument is out of range";

    private SoundEdges() {
    }

    static void tell() {
        sound();
        samplesBelow0();
        blocksOfSounds();
        exceptions();
        newObject();
        add();
        echo();
        echoRefuses();
        change();
        drop();
        empty();
        setDelay();
        setSpeed();
        setWeight();
        turnKind();
        counts();
        settings();
        loudness();
    }

    private static void sound() {
        holds(TERMS, "A sound has at most 48 samples", () -> {
            CaveEchoes cave = Caves.counting(47);
            due("add(1)", cave.add(1), 47);
            due("add(1), full, throws", Checks.thrownBy(cave, c -> c.add(1)), STATE);
            due("echo(1, 1, 1), full, throws", Checks.thrownBy(cave, c -> c.echo(1, 1, 1)), STATE);
            Checks.text(cave, "+1");
            due("doWorks(), full", cave.doWorks(), 0);
            due("samples()", cave.samples(), 48);
        });
        holds(TERMS, "from -99 to 99, numbered from 0", () -> {
            due("the number of the first", new CaveEchoes().add(-99), 0);
            CaveEchoes cave = Caves.of(-99, 99);
            samples(cave, -99, 99);
            due("foretold(LAST, 1)", cave.foretold(CaveEchoes.LAST, 1), -99);
            due("foretold(LAST, 2)", cave.foretold(CaveEchoes.LAST, 2), 99);
        });
        holds(TERMS, "it has none at first", () -> samples(new CaveEchoes()));
        holds(TERMS, "All divisions are rounded down.", () -> {
            due("a tenth of -1", with(Caves.of(-1), c -> c.echo(1, 1, 1)).sampleAt(1), -1);
            due("nine tenths of -99", with(Caves.of(-99), c -> c.echo(1, 1, 9)).sampleAt(1), -90);
            due("nine tenths of 1", with(Caves.of(1), c -> c.echo(1, 1, 9)).sampleAt(1), 0);
            CaveEchoes weighed = Caves.of(-9);
            weighed.setWeight(1, 1);
            due("(-9 + 8) / 16", weighed.foretold(CaveEchoes.WEIGHED, 1), -1);
            due("bits of the folded 1 with the parameter 1", Caves.of(-1).bitsWith(0, 0, 1), 0 + 1 + 1 + 6);
        });
    }

    private static void samplesBelow0() {
        String sentence = "A sample with a number below 0 is 0, wherever one is asked for.";
        holds(TERMS, sentence, () -> {
            samples(with(new CaveEchoes(), c -> c.echo(3, 2, 9)), 0, 0, 0);
            samples(with(Caves.of(50, 60), c -> c.echo(3, 3, 5)), 50, 60, 0, 25, 30);
        });
        holds(TERMS, sentence, () -> {
            CaveEchoes cave = Caves.counting(13);
            due("foretold(LAST, 0)", cave.foretold(CaveEchoes.LAST, 0), 0);
            due("foretold(SLOPE, 0)", cave.foretold(CaveEchoes.SLOPE, 0), 0);
            due("foretold(SLOPE, 1)", cave.foretold(CaveEchoes.SLOPE, 1), 2);
            due("foretold(DELAY, 3)", cave.foretold(CaveEchoes.DELAY, 3), 0);
            due("foretold(DELAY, 4)", cave.foretold(CaveEchoes.DELAY, 4), 1);
            cave.setDelay(12);
            due("foretold(DELAY, 11)", cave.foretold(CaveEchoes.DELAY, 11), 0);
            due("foretold(DELAY, 12)", cave.foretold(CaveEchoes.DELAY, 12), 1);
        });
        holds(TERMS, sentence, () -> {
            CaveEchoes cave = Caves.of(10, 20);
            for (int weight = 1; weight <= 4; weight++) {
                cave.setWeight(weight, 64);
            }
            due("foretold(WEIGHED, 0)", cave.foretold(CaveEchoes.WEIGHED, 0), 0);
            due("foretold(WEIGHED, 1)", cave.foretold(CaveEchoes.WEIGHED, 1), 40);
            due("weightAt(2, 2), as the sample -1 is 0", cave.weightAt(2, 2), 64);
            due("weightByCounting(2, 2)", cave.weightByCounting(2, 2), 64);
        });
        holds(TERMS, sentence, () -> {
            CaveEchoes delayed = sent(Caves.only(CaveEchoes.DELAY, 7, 8, 9, 10, 11));
            delayed.tamper(0, 9);
            heard(delayed, 9, 8, 9, 10, 13);
            CaveEchoes slope = sent(Caves.only(CaveEchoes.SLOPE, 7, 14));
            slope.tamper(0, 9);
            heard(slope, 9, 18);
        });
    }

    private static void blocksOfSounds() {
        holds(TERMS, "A block has 8 samples (the last one perhaps fewer)", () -> {
            due("bits of a whole block", Caves.silent(8).bitsWith(0, 0, 0), 8 + 6);
            CaveEchoes nine = Caves.silent(9);
            due("bits of a whole block", nine.bitsWith(0, 0, 0), 8 + 6);
            due("bits of a block of 1", nine.bitsWith(1, 0, 0), 1 + 6);
            CaveEchoes fifteen = Caves.silent(15);
            due("bits of a block of 7", fifteen.bitsWith(1, 0, 0), 7 + 6);
            due("bits of the block 5", Caves.silent(48).bitsWith(5, 0, 0), 8 + 6);
        });
        holds(TERMS, "the block b begins with the sample 8b", () -> {
            for (int block = 0; block < 6; block++) {
                CaveEchoes cave = Caves.silent(48);
                cave.change(8 * block, 10);
                for (int other = 0; other < 6; other++) {
                    due("bits of " + other, cave.bitsWith(other, 0, 0), other == block ? 8 + 20 + 6 : 8 + 6);
                }
                cave.change(8 * block + 7, 10);
                due("bits of both its ends", cave.bitsWith(block, 0, 0), 8 + 40 + 6);
            }
        });
    }

    private static void exceptions() {
        holds(TERMS, "IndexOutOfBoundsException: there is no such sample, block, bit or slot.", () -> {
            refuses(INDEX, Caves::rich, "sampleAt(10)", c -> c.sampleAt(10));
            refuses(INDEX, Caves::rich, "bestKind(2)", c -> c.bestKind(2));
            refuses(INDEX, Caves::rich, "letterBit() of the next", c -> c.letterBit(c.letterBits()));
            refuses(INDEX, Caves::rich, "keep(2)", c -> c.keep(2));
        });
        holds(TERMS, "IllegalArgumentException: another argument is out of its range.",
                () -> refuses(ARGUMENT, Caves::rich, "setDelay(0)", c -> c.setDelay(0)));
        holds(TERMS, "IllegalStateException: the call is not possible as things are.",
                () -> refuses(STATE, Caves::bare, "drop()", CaveEchoes::drop));
        holds(TERMS, "A call that throws an exception changes nothing.", () -> {
            refuses(STATE, Caves::full, "add(5), full", c -> c.add(5));
            refuses(STATE, c -> Caves.count(c, 40), "echo(16, 1, 1)", c -> c.echo(16, 1, 1));
            refuses(ARGUMENT, Caves::rich, "change(0, 100)", c -> c.change(0, 100));
            refuses(ARGUMENT, Caves::rich, "tamper(0, 199)", c -> c.tamper(0, 199));
            refuses(STATE, Caves::rich, "goBack(1)", c -> c.goBack(1));
            refuses(STATE, c -> Checks.text(c, "+1;"), "doWorks()", CaveEchoes::doWorks);
        });
        holds(TERMS, FIRST_OF_SEVERAL, () -> {
            refuses(ARGUMENT, Caves::full, "add(100), full", c -> c.add(100));
            refuses(INDEX, Caves::rich, "change(10, 100)", c -> c.change(10, 100));
        });
    }

    private static void newObject() {
        holds(1, "Creates a cave without a sound.", () -> {
            CaveEchoes cave = new CaveEchoes();
            due("samples()", cave.samples(), 0);
            due("blocks()", cave.blocks(), 0);
            due("sampleAt(0) throws", Checks.thrownBy(cave, c -> c.sampleAt(0)), INDEX);
            due("drop() throws", Checks.thrownBy(cave, CaveEchoes::drop), STATE);
            due("undo() throws", Checks.thrownBy(cave, CaveEchoes::undo), STATE);
            due("bits()", cave.bits(), 0);
        });
        holds(TERMS, "The constants: `NONE = -1`: There is no such number.", () -> due("NONE", CaveEchoes.NONE, -1));
        holds(TERMS, "`SILENCE = 0, LAST = 1, SLOPE = 2, DELAY = 3, WEIGHED = 4`: Kinds of foretelling.", () -> {
            due("SILENCE", CaveEchoes.SILENCE, 0);
            due("LAST", CaveEchoes.LAST, 1);
            due("SLOPE", CaveEchoes.SLOPE, 2);
            due("DELAY", CaveEchoes.DELAY, 3);
            due("WEIGHED", CaveEchoes.WEIGHED, 4);
        });
    }

    private static void add() {
        holds(2, "Adds a sample.", () -> samples(Caves.of(5, 0, -5), 5, 0, -5));
        holds(2, "Undoable.", () -> undoes(Caves::rich, "add(5)", c -> c.add(5)));
        holds(2, "`sample`: -99 to 99", () -> samples(Caves.of(-99, -98, 98, 99), -99, -98, 98, 99));
        holds(2, "Returns its number.", () -> {
            due("the first", new CaveEchoes().add(7), 0);
            due("the second", Caves.of(7).add(7), 1);
            due("the last", Caves.counting(47).add(7), 47);
            due("behind a dropped one", with(Caves.of(7, 8), CaveEchoes::drop).add(7), 1);
        });
        holds(2, RANGE, () -> {
            for (int wrong : beyond(-99, 99)) {
                refuses(ARGUMENT, Caves::rich, "add(" + wrong + ")", c -> c.add(wrong));
                refuses(ARGUMENT, Caves::bare, "add(" + wrong + ")", c -> c.add(wrong));
            }
        });
        holds(2, "Throws `IllegalStateException` if there are 48 samples", () -> {
            due("add(1) to 47", Checks.thrownBy(Caves.counting(47), c -> c.add(1)), null);
            refuses(STATE, Caves::full, "add(1) to 48", c -> c.add(1));
            refuses(STATE, Caves::fullAndSent, "add(-99) to 48", c -> c.add(-99));
        });
        holds(2, FIRST_OF_SEVERAL, () -> {
            refuses(ARGUMENT, Caves::full, "add(100) to 48", c -> c.add(100));
            refuses(ARGUMENT, Caves::full, "add(-100) to 48", c -> c.add(-100));
        });
    }

    private static void echo() {
        holds(3, "Adds an echo: samples that are parts of samples that came some time before, each a number of tenths of the sample so much earlier, one after the other",
                () -> samples(with(Caves.of(10, -20, 30), c -> c.echo(3, 3, 5)), 10, -20, 30, 5, -10, 15));
        holds(3, "(an echo can come from samples of the same echo)",
                () -> samples(with(Caves.of(80), c -> c.echo(4, 1, 5)), 80, 40, 20, 10, 5));
        holds(3, "Undoable.", () -> {
            undoes(Caves::rich, "echo(5, 3, 4)", c -> c.echo(5, 3, 4));
            undoes(Caves::bare, "echo(16, 1, 1)", c -> c.echo(16, 1, 1));
        });
        holds(3, "`many`: 1 to 16: how many samples", () -> {
            samples(with(Caves.of(50), c -> c.echo(1, 1, 1)), 50, 5);
            CaveEchoes sixteen = with(new CaveEchoes(), c -> c.echo(16, 1, 9));
            due("samples() behind 16", sixteen.samples(), 16);
        });
        holds(3, "`back`: 1 to 12: how much earlier", () -> {
            samples(with(Caves.of(10, 20), c -> c.echo(1, 1, 9)), 10, 20, 18);
            CaveEchoes far = with(Caves.counting(13), c -> c.change(1, 90));
            far.echo(1, 12, 1);
            due("a tenth of the sample 12 earlier", far.sampleAt(13), 9);
        });
        holds(3, "`tenth`: 1 to 9", () -> {
            samples(with(Caves.of(90), c -> c.echo(1, 1, 1)), 90, 9);
            samples(with(Caves.of(-90), c -> c.echo(1, 1, 9)), -90, -81);
        });
        holds(3, "Returns the number of samples then.", () -> {
            due("the first echo", new CaveEchoes().echo(1, 1, 1), 1);
            due("echo(5, 1, 1)", Caves.of(1, 2).echo(5, 1, 1), 7);
            due("the last echo", Caves.counting(32).echo(16, 12, 9), 48);
        });
    }

    private static void echoRefuses() {
        holds(3, AN_ARGUMENT, () -> {
            for (int many : beyond(1, 16)) {
                refuses(ARGUMENT, Caves::rich, "echo(" + many + ", 1, 1)", c -> c.echo(many, 1, 1));
            }
        });
        holds(3, AN_ARGUMENT, () -> {
            for (int back : beyond(1, 12)) {
                refuses(ARGUMENT, Caves::rich, "echo(1, " + back + ", 1)", c -> c.echo(1, back, 1));
            }
        });
        holds(3, AN_ARGUMENT, () -> {
            for (int tenth : beyond(1, 9)) {
                refuses(ARGUMENT, Caves::rich, "echo(1, 1, " + tenth + ")", c -> c.echo(1, 1, tenth));
            }
        });
        holds(3, "Throws `IllegalStateException` if there would be more than 48 samples", () -> {
            due("echo(1, 1, 1) to 47", Caves.counting(47).echo(1, 1, 1), 48);
            due("echo(16, 1, 1) to 32", Caves.counting(32).echo(16, 1, 1), 48);
            refuses(STATE, c -> Caves.count(c, 33), "echo(16, 1, 1) to 33", c -> c.echo(16, 1, 1));
            refuses(STATE, c -> Caves.count(c, 47), "echo(2, 1, 1) to 47", c -> c.echo(2, 1, 1));
            refuses(STATE, Caves::full, "echo(1, 12, 9) to 48", c -> c.echo(1, 12, 9));
        });
        holds(3, FIRST_OF_SEVERAL, () -> {
            refuses(ARGUMENT, Caves::full, "echo(17, 1, 1) to 48", c -> c.echo(17, 1, 1));
            refuses(ARGUMENT, Caves::full, "echo(1, 13, 1) to 48", c -> c.echo(1, 13, 1));
            refuses(ARGUMENT, Caves::full, "echo(1, 1, 10) to 48", c -> c.echo(1, 1, 10));
            refuses(ARGUMENT, Caves::full, "echo(MAX, 1, 1) to 48", c -> c.echo(Integer.MAX_VALUE, 1, 1));
        });
    }

    private static void change() {
        holds(4, "Changes a sample.", () -> {
            samples(with(Caves.of(1, 2, 3), c -> c.change(1, 9)), 1, 9, 3);
            due("foretold(LAST, 2)", with(Caves.of(1, 2, 3), c -> c.change(1, 9)).foretold(1, 2), 9);
        });
        holds(4, "Undoable.", () -> undoes(Caves::rich, "change(9, 4)", c -> c.change(9, 4)));
        holds(4, "`number`: its number", () -> {
            samples(with(Caves.of(1, 2, 3), c -> c.change(0, 9)), 9, 2, 3);
            samples(with(Caves.of(1, 2, 3), c -> c.change(2, 9)), 1, 2, 9);
            due("change(47, 0)", Caves.counting(48).change(47, 0), 48);
        });
        holds(4, "`sample`: -99 to 99", () -> {
            samples(with(Caves.of(1), c -> c.change(0, -99)), -99);
            samples(with(Caves.of(1), c -> c.change(0, 99)), 99);
        });
        holds(4, "Returns the sample before.", () -> {
            CaveEchoes cave = Caves.of(-99, 99);
            due("change(0, 5)", cave.change(0, 5), -99);
            due("change(1, 5)", cave.change(1, 5), 99);
            due("change(1, 5) again", cave.change(1, 5), 5);
        });
        holds(4, "Throws `IndexOutOfBoundsException` if there is no such sample", () -> {
            refuses(INDEX, Caves::bare, "change(0, 0), none", c -> c.change(0, 0));
            for (int wrong : beyond(0, 9)) {
                refuses(INDEX, Caves::rich, "change(" + wrong + ", 0)", c -> c.change(wrong, 0));
            }
            refuses(INDEX, Caves::full, "change(48, 0)", c -> c.change(48, 0));
            refuses(INDEX, c -> with(c, Caves::rich).drop(), "change() of the dropped", c -> c.change(9, 0));
        });
        holds(4, RANGE, () -> {
            for (int wrong : beyond(-99, 99)) {
                refuses(ARGUMENT, Caves::rich, "change(0, " + wrong + ")", c -> c.change(0, wrong));
            }
        });
        holds(4, FIRST_OF_SEVERAL, () -> {
            refuses(INDEX, Caves::rich, "change(10, 100)", c -> c.change(10, 100));
            refuses(INDEX, Caves::bare, "change(0, -100)", c -> c.change(0, -100));
        });
    }

    private static void drop() {
        holds(5, "Drops the last sample.", () -> {
            samples(with(Caves.of(1, 2, 3), CaveEchoes::drop), 1, 2);
            samples(with(Caves.of(1), CaveEchoes::drop));
            due("samples() of 48 less 1", with(Caves.counting(48), CaveEchoes::drop).samples(), 47);
        });
        holds(5, "Undoable.", () -> undoes(Caves::rich, "drop()", CaveEchoes::drop));
        holds(5, "Returns the sample.", () -> {
            due("drop()", Caves.of(1, -99).drop(), -99);
            due("drop() of the only one", Caves.of(99).drop(), 99);
            due("drop() of 48", Caves.counting(48).drop(), 48);
        });
        holds(5, "Throws `IllegalStateException` if there is none", () -> {
            refuses(STATE, Caves::bare, "drop(), new", CaveEchoes::drop);
            refuses(STATE, c -> with(c, Caves::rich).empty(), "drop(), emptied", CaveEchoes::drop);
            refuses(STATE, c -> with(c, d -> d.add(1)).drop(), "drop(), dropped", CaveEchoes::drop);
        });
    }

    private static void empty() {
        holds(6, "Empties the sound.", () -> {
            CaveEchoes cave = Checks.make(Caves::rich);
            cave.empty();
            samples(cave);
            due("delay() stays", cave.delay(), 2);
            due("firstWeight(3) stays", cave.firstWeight(3), -5);
            due("told() stays", cave.told(), 10);
            due("add() is the first then", cave.add(4), 0);
        });
        holds(6, "Undoable.", () -> {
            undoes(Caves::rich, "empty()", CaveEchoes::empty);
            undoes(Caves::bare, "empty() of nothing", CaveEchoes::empty);
        });
        holds(6, "Returns the number of samples that it had.", () -> {
            due("empty(), none", new CaveEchoes().empty(), 0);
            due("empty(), one", Caves.of(5).empty(), 1);
            due("empty(), full", Caves.counting(48).empty(), 48);
        });
    }

    private static void setDelay() {
        holds(7, "Sets the delay.", () -> {
            CaveEchoes cave = with(Caves.of(1, 2, 3), c -> c.setDelay(2));
            due("delay()", cave.delay(), 2);
            due("foretold(DELAY, 3)", cave.foretold(CaveEchoes.DELAY, 3), 2);
        });
        holds(7, "Undoable.", () -> {
            undoes(Caves::rich, "setDelay(7)", c -> c.setDelay(7));
            undoes(Caves::rich, "setDelay(2), as it is", c -> c.setDelay(2));
        });
        holds(7, "`delay`: 1 to 12", () -> {
            due("delay() of 1", with(new CaveEchoes(), c -> c.setDelay(1)).delay(), 1);
            due("delay() of 12", with(new CaveEchoes(), c -> c.setDelay(12)).delay(), 12);
        });
        holds(7, "Returns the delay before.", () -> {
            CaveEchoes cave = new CaveEchoes();
            due("setDelay(12)", cave.setDelay(12), 4);
            due("setDelay(1)", cave.setDelay(1), 12);
        });
        holds(7, "Throws `IllegalArgumentException` if delay is out of range", () -> {
            for (int wrong : beyond(1, 12)) {
                refuses(ARGUMENT, Caves::rich, "setDelay(" + wrong + ")", c -> c.setDelay(wrong));
            }
        });
    }

    private static void setSpeed() {
        holds(8, "Sets the speed.", () -> {
            CaveEchoes cave = with(Caves.of(10, 20), c -> c.setSpeed(2));
            due("speed()", cave.speed(), 2);
            due("weightAt(1, 2)", cave.weightAt(1, 2), 18);
        });
        holds(8, "Undoable.", () -> {
            undoes(Caves::rich, "setSpeed(2)", c -> c.setSpeed(2));
            undoes(Caves::rich, "setSpeed(1), as it is", c -> c.setSpeed(1));
        });
        holds(8, "`speed`: 0 to 3", () -> {
            due("speed() of 0", with(new CaveEchoes(), c -> c.setSpeed(0)).speed(), 0);
            due("speed() of 3", with(new CaveEchoes(), c -> c.setSpeed(3)).speed(), 3);
        });
        holds(8, "Returns the speed before.", () -> {
            CaveEchoes cave = new CaveEchoes();
            due("setSpeed(3)", cave.setSpeed(3), 1);
            due("setSpeed(0)", cave.setSpeed(0), 3);
        });
        holds(8, "Throws `IllegalArgumentException` if speed is out of range", () -> {
            for (int wrong : beyond(0, 3)) {
                refuses(ARGUMENT, Caves::rich, "setSpeed(" + wrong + ")", c -> c.setSpeed(wrong));
            }
        });
    }

    private static void setWeight() {
        holds(9, "Sets the first value of a weight.", () -> {
            CaveEchoes cave = with(Caves.of(10), c -> c.setWeight(2, -7));
            due("firstWeight(2)", cave.firstWeight(2), -7);
            due("firstWeight(1) stays", cave.firstWeight(1), 16);
            due("firstWeight(3) stays", cave.firstWeight(3), 0);
            due("weightAt(2, 0)", cave.weightAt(2, 0), -7);
        });
        holds(9, "Undoable.", () -> {
            undoes(Caves::rich, "setWeight(2, 9)", c -> c.setWeight(2, 9));
            undoes(Caves::rich, "setWeight(3, -5), as it is", c -> c.setWeight(3, -5));
        });
        holds(9, "`weight`: 1 to 4", () -> {
            due("firstWeight(1)", with(new CaveEchoes(), c -> c.setWeight(1, 5)).firstWeight(1), 5);
            due("firstWeight(4)", with(new CaveEchoes(), c -> c.setWeight(4, 5)).firstWeight(4), 5);
        });
        holds(9, "`value`: -64 to 64", () -> {
            due("the least", with(new CaveEchoes(), c -> c.setWeight(1, -64)).firstWeight(1), -64);
            due("the greatest", with(new CaveEchoes(), c -> c.setWeight(1, 64)).firstWeight(1), 64);
        });
        holds(9, "Returns the first value before.", () -> {
            CaveEchoes cave = new CaveEchoes();
            due("setWeight(1, 64)", cave.setWeight(1, 64), 16);
            due("setWeight(1, -64)", cave.setWeight(1, -64), 64);
            due("setWeight(4, 1)", cave.setWeight(4, 1), 0);
        });
        holds(9, AN_ARGUMENT, () -> {
            for (int weight : beyond(1, 4)) {
                refuses(ARGUMENT, Caves::rich, "setWeight(" + weight + ", 0)", c -> c.setWeight(weight, 0));
            }
        });
        holds(9, AN_ARGUMENT, () -> {
            for (int value : beyond(-64, 64)) {
                refuses(ARGUMENT, Caves::rich, "setWeight(1, " + value + ")", c -> c.setWeight(1, value));
            }
        });
    }

    private static void turnKind() {
        holds(10, "Allows a kind, or does not allow it any more, if it is allowed.", () -> {
            CaveEchoes cave = new CaveEchoes();
            cave.turnKind(2);
            due("allowed() without SLOPE", cave.allowed(), 1 + 2 + 8 + 16);
            cave.turnKind(2);
            due("allowed() with it again", cave.allowed(), 31);
        });
        holds(10, "Undoable.", () -> {
            undoes(Caves::rich, "turnKind(2)", c -> c.turnKind(2));
            undoes(c -> Caves.allowOnly(c, 3), "turnKind(2)", c -> c.turnKind(2));
        });
        holds(10, "`kind`: SILENCE to WEIGHED", () -> {
            due("allowed() without SILENCE", with(new CaveEchoes(), c -> c.turnKind(0)).allowed(), 30);
            due("allowed() without WEIGHED", with(new CaveEchoes(), c -> c.turnKind(4)).allowed(), 15);
        });
        holds(10, "Returns whether it is allowed then.", () -> {
            CaveEchoes cave = new CaveEchoes();
            due("turnKind(0)", cave.turnKind(0), false);
            due("turnKind(0) again", cave.turnKind(0), true);
            due("turnKind(4)", cave.turnKind(4), false);
        });
        holds(10, "Throws `IllegalArgumentException` if there is no such kind", () -> {
            for (int wrong : beyond(0, 4)) {
                refuses(ARGUMENT, Caves::rich, "turnKind(" + wrong + ")", c -> c.turnKind(wrong));
            }
            // kinds whose number is alike in its lowest five bits
            refuses(ARGUMENT, Caves::rich, "turnKind(32)", c -> c.turnKind(32));
            refuses(ARGUMENT, Caves::rich, "turnKind(-32)", c -> c.turnKind(-32));
        });
        holds(10, "Throws `IllegalStateException` if it is the only one that is allowed", () -> {
            for (int kind = 0; kind < 5; kind++) {
                int only = kind;
                int other = (kind + 1) % 5;
                Checks.Script built = c -> Caves.allowOnly(c, only);
                refuses(STATE, built, "turnKind() of the only one", c -> c.turnKind(only));
                CaveEchoes two = Checks.make(built);
                due("turnKind() of another", two.turnKind(other), true);
                due("turnKind() of one of two", two.turnKind(only), false);
            }
        });
        holds(10, FIRST_OF_SEVERAL, () -> {
            refuses(ARGUMENT, c -> Caves.allowOnly(c, 0), "turnKind(32)", c -> c.turnKind(32));
            refuses(ARGUMENT, c -> Caves.allowOnly(c, 4), "turnKind(5)", c -> c.turnKind(5));
        });
    }

    private static void counts() {
        holds(13, "Returns the number of samples.", () -> {
            due("samples(), none", new CaveEchoes().samples(), 0);
            due("samples(), one", Caves.of(0).samples(), 1);
            due("samples(), full", Caves.counting(48).samples(), 48);
            due("samples() of another sound than the letter's", Checks.make(c -> {
                Caves.rich(c);
                c.empty();
            }).samples(), 0);
        });
        holds(14, "Returns a sample.", () -> samples(Caves.of(4, -4), 4, -4));
        holds(14, "`number`: its number", () -> {
            due("sampleAt(0)", Caves.of(4).sampleAt(0), 4);
            due("sampleAt(47)", Caves.counting(48).sampleAt(47), 48);
        });
        holds(14, "Returns the sample.", () -> samples(Caves.of(-99, 0, 99), -99, 0, 99));
        holds(14, "Throws `IndexOutOfBoundsException` if there is no such sample", () -> {
            refuses(INDEX, Caves::bare, "sampleAt(0), none", c -> c.sampleAt(0));
            for (int wrong : beyond(0, 9)) {
                refuses(INDEX, Caves::rich, "sampleAt(" + wrong + ")", c -> c.sampleAt(wrong));
            }
            refuses(INDEX, Caves::full, "sampleAt(48)", c -> c.sampleAt(48));
            refuses(INDEX, c -> with(c, Caves::rich).drop(), "sampleAt() of the dropped", c -> c.sampleAt(9));
        });
        holds(15, "Returns the number of blocks of the sound.", () -> {
            int[] samples = {0, 1, 7, 8, 9, 16, 17, 40, 41, 48};
            int[] blocks = {0, 1, 1, 1, 2, 2, 3, 5, 6, 6};
            for (int i = 0; i < samples.length; i++) {
                due("blocks() of " + samples[i], Caves.counting(samples[i]).blocks(), blocks[i]);
            }
        });
    }

    private static void settings() {
        holds(16, "Returns the delay.", () -> {
            due("delay() at first", new CaveEchoes().delay(), 4);
            due("delay() of 12", with(new CaveEchoes(), c -> c.setDelay(12)).delay(), 12);
        });
        holds(17, "Returns the speed.", () -> {
            due("speed() at first", new CaveEchoes().speed(), 1);
            due("speed() of 0", with(new CaveEchoes(), c -> c.setSpeed(0)).speed(), 0);
        });
        holds(18, "Returns the kinds that are allowed, as a set of bits: bit k for the kind k.", () -> {
            due("allowed() at first", new CaveEchoes().allowed(), 31);
            for (int kind = 0; kind < 5; kind++) {
                due("allowed(), the only one", Caves.only(kind).allowed(), 1 << kind);
            }
        });
        holds(19, "Returns the first value of a weight.", () -> {
            CaveEchoes cave = with(Caves.of(10, 20), c -> c.setWeight(2, -64));
            due("firstWeight(1), not as it is adapted", cave.firstWeight(1), 16);
            due("firstWeight(2)", cave.firstWeight(2), -64);
        });
        holds(19, "`weight`: 1 to 4", () -> {
            CaveEchoes cave = new CaveEchoes();
            cave.setWeight(1, 11);
            cave.setWeight(4, 44);
            due("firstWeight(1)", cave.firstWeight(1), 11);
            due("firstWeight(4)", cave.firstWeight(4), 44);
        });
        holds(19, "Returns the value.", () -> due("firstWeight(1)", new CaveEchoes().firstWeight(1), 16));
        holds(19, "Throws `IllegalArgumentException` if weight is out of range", () -> {
            for (int wrong : beyond(1, 4)) {
                refuses(ARGUMENT, Caves::rich, "firstWeight(" + wrong + ")", c -> c.firstWeight(wrong));
            }
        });
    }

    private static void loudness() {
        holds(20, "Returns the mean size of the samples", () -> {
            due("loudness() of the softest", with(Caves.silent(48), c -> c.change(47, 1)).loudness(), 1.0 / 48.0);
            due("loudness() of one", Caves.of(7).loudness(), 7.0);
        });
        holds(20, "(a sample below 0 counts as 0 less it)", () -> {
            due("loudness() of the loudest", Caves.of(-99, 99, -99).loudness(), 99.0);
            due("loudness() of -1", Caves.of(-1, 0).loudness(), 0.5);
        });
        holds(20, "as a double: their sum divided by how many there are",
                () -> due("loudness() of thirds", Caves.of(0, -1, 0).loudness(), 1.0 / 3.0));
        holds(20, "0.0 if there are none.", () -> {
            due("loudness(), new", new CaveEchoes().loudness(), 0.0);
            due("loudness(), emptied", with(Caves.of(5), CaveEchoes::empty).loudness(), 0.0);
        });
    }
}
