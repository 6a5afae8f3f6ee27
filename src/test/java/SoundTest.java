/** Promises 1 to 10 and 13 to 20: the sound, how it is foretold, and as it is. */
public final class SoundTest {
    private static final Class<?> ARGUMENT = IllegalArgumentException.class;
    private static final Class<?> STATE = IllegalStateException.class;
    private static final Class<?> INDEX = IndexOutOfBoundsException.class;
    private static final int[] FAR = {Integer.MIN_VALUE, Integer.MAX_VALUE};

    public static void main(String[] args) {
        promise1();
        promise2();
        promise3();
        promise3Refuses();
        promise4();
        promise5();
        promise6();
        promise7();
        promise8();
        promise9();
        promise10();
        promises13And14();
        promise15();
        promises16To19();
        promise20();
        Checks.end("SoundTest");
    }

    private static void promise1() {
        CaveEchoes cave = new CaveEchoes();
        Checks.due("new samples()", cave.samples(), 0);
        Checks.due("new blocks()", cave.blocks(), 0);
        Checks.due("new delay()", cave.delay(), 4);
        Checks.due("new speed()", cave.speed(), 1);
        Checks.due("new allowed()", cave.allowed(), 31);
        Checks.due("new loudness()", cave.loudness(), 0.0);
        Checks.due("new told()", cave.told(), 0);
        Checks.due("new sent()", cave.sent(), 0);
        Checks.due("new bits()", cave.bits(), 0);
        Checks.due("new firstError()", cave.firstError(), 0);
        for (int weight = 1; weight <= 4; weight++) {
            Checks.due("new firstWeight()", cave.firstWeight(weight), weight == 1 ? 16 : 0);
        }
        Checks.refuses("new undo()", STATE, Caves::bare, CaveEchoes::undo);
        Checks.refuses("new goBack(0)", STATE, Caves::bare, c -> c.goBack(0));
        Checks.refuses("new goBack(1)", STATE, Caves::bare, c -> c.goBack(1));
    }

    private static void promise2() {
        CaveEchoes cave = new CaveEchoes();
        Checks.due("add(-99)", cave.add(-99), 0);
        Checks.due("add(99)", cave.add(99), 1);
        Checks.due("add(0)", cave.add(0), 2);
        Checks.due("sampleAt(0)", cave.sampleAt(0), -99);
        Checks.due("sampleAt(1)", cave.sampleAt(1), 99);
        Checks.due("sampleAt(2)", cave.sampleAt(2), 0);
        CaveEchoes full = Checks.make(Caves::full);
        full.drop();
        Checks.due("add() as the last", full.add(7), 47);
        Checks.refuses("add(-100)", ARGUMENT, Caves::rich, c -> c.add(-100));
        Checks.refuses("add(100)", ARGUMENT, Caves::rich, c -> c.add(100));
        Checks.refuses("add(far)", ARGUMENT, Caves::rich, c -> c.add(FAR[0]));
        Checks.refuses("add(far)", ARGUMENT, Caves::rich, c -> c.add(FAR[1]));
        Checks.refuses("add(1), full", STATE, Caves::full, c -> c.add(1));
        Checks.refuses("add(100), full", ARGUMENT, Caves::full, c -> c.add(100));
        Checks.undoes("add(5)", Caves::rich, c -> c.add(5));
    }

    private static void promise3() {
        CaveEchoes cave = Caves.of(10, -7);
        Checks.due("echo(3, 2, 5)", cave.echo(3, 2, 5), 5);
        Checks.due("half of 10", cave.sampleAt(2), 5);
        Checks.due("half of -7, rounded down", cave.sampleAt(3), -4);
        Checks.due("half of 5, of the same echo", cave.sampleAt(4), 2);
        CaveEchoes early = Caves.of(50);
        Checks.due("echo(3, 3, 9)", early.echo(3, 3, 9), 4);
        Checks.due("part of the sample -2", early.sampleAt(1), 0);
        Checks.due("part of the sample -1", early.sampleAt(2), 0);
        Checks.due("nine tenths of 50", early.sampleAt(3), 45);
        CaveEchoes far = Caves.of(-99, 1, 1, 1, 1, 1, 1, 1, 1, 1, 1, 1);
        Checks.due("echo(1, 12, 1)", far.echo(1, 12, 1), 13);
        Checks.due("a tenth of -99, rounded down", far.sampleAt(12), -10);
        Checks.due("echo(16, 1, 9)", far.echo(16, 1, 9), 29);
        Checks.due("echo(16, 1, 9) again", far.echo(16, 1, 9), 45);
        Checks.due("echo(3, 1, 9) to the brim", far.echo(3, 1, 9), 48);
    }

    private static void promise3Refuses() {
        int[][] wrong = {{0, 1, 1}, {17, 1, 1}, {1, 0, 1}, {1, 13, 1}, {1, 1, 0}, {1, 1, 10}, {-1, 1, 1},
            {FAR[1], 1, 1}, {1, FAR[0], 1}, {1, 1, FAR[1]}, {FAR[0], FAR[0], FAR[0]}};
        for (int[] w : wrong) {
            Checks.refuses("echo() wrongly", ARGUMENT, Caves::rich, c -> c.echo(w[0], w[1], w[2]));
            Checks.refuses("echo() wrongly, full", ARGUMENT, Caves::full, c -> c.echo(w[0], w[1], w[2]));
        }
        Checks.refuses("echo(1, 1, 1), full", STATE, Caves::full, c -> c.echo(1, 1, 1));
        Checks.refuses("echo(2, 1, 1), room for one", STATE, c -> {
            Caves.full(c);
            c.drop();
        }, c -> c.echo(2, 1, 1));
        Checks.undoes("echo(5, 3, 4)", Caves::rich, c -> c.echo(5, 3, 4));
    }

    private static void promise4() {
        CaveEchoes cave = Caves.of(1, 2, 3);
        Checks.due("change(1, -99)", cave.change(1, -99), 2);
        Checks.due("change(1, 99)", cave.change(1, 99), -99);
        Checks.due("change(2, 0)", cave.change(2, 0), 3);
        Checks.due("change(0, 8)", cave.change(0, 8), 1);
        Checks.due("sampleAt(0)", cave.sampleAt(0), 8);
        Checks.due("sampleAt(1)", cave.sampleAt(1), 99);
        Checks.due("samples()", cave.samples(), 3);
        Checks.refuses("change(-1, 0)", INDEX, Caves::rich, c -> c.change(-1, 0));
        Checks.refuses("change(10, 0)", INDEX, Caves::rich, c -> c.change(10, 0));
        Checks.refuses("change(48, 0), full", INDEX, Caves::full, c -> c.change(48, 0));
        Checks.refuses("change(10, 100)", INDEX, Caves::rich, c -> c.change(10, 100));
        Checks.refuses("change(far, far)", INDEX, Caves::rich, c -> c.change(FAR[0], FAR[1]));
        Checks.refuses("change(0, 100)", ARGUMENT, Caves::rich, c -> c.change(0, 100));
        Checks.refuses("change(0, -100)", ARGUMENT, Caves::rich, c -> c.change(0, -100));
        Checks.undoes("change(3, 9)", Caves::rich, c -> c.change(3, 9));
    }

    private static void promise5() {
        CaveEchoes cave = Caves.of(1, -2);
        Checks.due("drop()", cave.drop(), -2);
        Checks.due("samples()", cave.samples(), 1);
        Checks.due("drop()", cave.drop(), 1);
        Checks.due("samples()", cave.samples(), 0);
        cave.add(4);
        Checks.due("echo() of a dropped sample", cave.foretold(CaveEchoes.LAST, 1), 4);
        Checks.refuses("drop(), none", STATE, Caves::bare, CaveEchoes::drop);
        Checks.undoes("drop()", Caves::rich, CaveEchoes::drop);
    }

    private static void promise6() {
        CaveEchoes cave = Caves.of(1, -2);
        cave.setSpeed(3);
        Checks.due("empty()", cave.empty(), 2);
        Checks.due("samples()", cave.samples(), 0);
        Checks.due("speed()", cave.speed(), 3);
        Checks.due("empty() again", cave.empty(), 0);
        Checks.due("undo()", cave.undo(), 4);
        Checks.due("samples()", cave.samples(), 0);
        Checks.due("undo()", cave.undo(), 3);
        Checks.due("samples()", cave.samples(), 2);
        Checks.undoes("empty()", Caves::rich, CaveEchoes::empty);
    }

    private static void promise7() {
        CaveEchoes cave = new CaveEchoes();
        Checks.due("setDelay(12)", cave.setDelay(12), 4);
        Checks.due("setDelay(1)", cave.setDelay(1), 12);
        Checks.due("setDelay(1) again", cave.setDelay(1), 1);
        Checks.due("undo()", cave.undo(), 2);
        Checks.due("delay()", cave.delay(), 1);
        for (int wrong : new int[] {0, 13, -1, FAR[0], FAR[1]}) {
            Checks.refuses("setDelay(" + wrong + ")", ARGUMENT, Caves::rich, c -> c.setDelay(wrong));
        }
        Checks.undoes("setDelay(7)", Caves::rich, c -> c.setDelay(7));
    }

    private static void promise8() {
        CaveEchoes cave = new CaveEchoes();
        Checks.due("setSpeed(3)", cave.setSpeed(3), 1);
        Checks.due("setSpeed(0)", cave.setSpeed(0), 3);
        Checks.due("speed()", cave.speed(), 0);
        for (int wrong : new int[] {-1, 4, FAR[0], FAR[1]}) {
            Checks.refuses("setSpeed(" + wrong + ")", ARGUMENT, Caves::rich, c -> c.setSpeed(wrong));
        }
        Checks.undoes("setSpeed(2)", Caves::rich, c -> c.setSpeed(2));
    }

    private static void promise9() {
        CaveEchoes cave = new CaveEchoes();
        Checks.due("setWeight(1, 64)", cave.setWeight(1, 64), 16);
        Checks.due("setWeight(4, -64)", cave.setWeight(4, -64), 0);
        Checks.due("setWeight(4, 3)", cave.setWeight(4, 3), -64);
        Checks.due("firstWeight(1)", cave.firstWeight(1), 64);
        Checks.due("firstWeight(4)", cave.firstWeight(4), 3);
        Checks.due("firstWeight(2)", cave.firstWeight(2), 0);
        int[][] wrongs = {{0, 0}, {5, 0}, {1, 65}, {1, -65}, {FAR[0], 0}, {FAR[1], 0}, {2, FAR[0]}, {2, FAR[1]}};
        for (int[] wrong : wrongs) {
            Checks.refuses("setWeight() wrongly", ARGUMENT, Caves::rich, c -> c.setWeight(wrong[0], wrong[1]));
        }
        Checks.undoes("setWeight(2, 9)", Caves::rich, c -> c.setWeight(2, 9));
    }

    private static void promise10() {
        CaveEchoes cave = new CaveEchoes();
        Checks.due("turnKind(4)", cave.turnKind(4), false);
        Checks.due("allowed()", cave.allowed(), 15);
        Checks.due("turnKind(4)", cave.turnKind(4), true);
        Checks.due("allowed()", cave.allowed(), 31);
        for (int kind = 0; kind < 5; kind++) {
            int alone = kind;
            CaveEchoes only = Caves.only(kind);
            Checks.due("allowed() alone", only.allowed(), 1 << kind);
            Checks.refuses("turnKind() of the only one", STATE, c -> Caves.allowOnly(c, alone), c -> c.turnKind(alone));
            Checks.due("turnKind() of another", only.turnKind((kind + 1) % 5), true);
            Checks.due("turnKind() of the first", only.turnKind(kind), false);
        }
        for (int wrong : new int[] {-1, 5, 32, 33, FAR[0], FAR[1]}) {
            Checks.refuses("turnKind(" + wrong + ")", ARGUMENT, Caves::rich, c -> c.turnKind(wrong));
            Checks.refuses("turnKind(" + wrong + ")", ARGUMENT, c -> Caves.allowOnly(c, 0), c -> c.turnKind(wrong));
        }
        Checks.undoes("turnKind(2)", Caves::rich, c -> c.turnKind(2));
    }

    private static void promises13And14() {
        CaveEchoes cave = Checks.make(Caves::full);
        Checks.due("samples(), full", cave.samples(), 48);
        for (int number = 0; number < 48; number++) {
            Checks.due("sampleAt(" + number + ")", cave.sampleAt(number), number + 1);
        }
        for (int wrong : new int[] {-1, 10, 48, FAR[0], FAR[1]}) {
            Checks.refuses("sampleAt(" + wrong + ")", INDEX, Caves::rich, c -> c.sampleAt(wrong));
        }
        Checks.refuses("sampleAt(48), full", INDEX, Caves::full, c -> c.sampleAt(48));
        Checks.refuses("sampleAt(0), none", INDEX, Caves::bare, c -> c.sampleAt(0));
        Checks.refuses("sampleAt() of a dropped one", INDEX, c -> {
            Caves.rich(c);
            c.drop();
        }, c -> c.sampleAt(9));
    }

    private static void promise15() {
        CaveEchoes cave = new CaveEchoes();
        for (int samples = 1; samples <= 48; samples++) {
            cave.add(samples);
            Checks.due("blocks() of " + samples, cave.blocks(), (samples + 7) / 8);
        }
    }

    private static void promises16To19() {
        CaveEchoes cave = new CaveEchoes();
        for (int delay = 1; delay <= 12; delay++) {
            cave.setDelay(delay);
            Checks.due("delay()", cave.delay(), delay);
        }
        for (int speed = 0; speed <= 3; speed++) {
            cave.setSpeed(speed);
            Checks.due("speed()", cave.speed(), speed);
        }
        cave.turnKind(1);
        cave.turnKind(3);
        Checks.due("allowed()", cave.allowed(), 1 + 4 + 16);
        for (int weight = 1; weight <= 4; weight++) {
            cave.setWeight(weight, 10 * weight);
        }
        for (int weight = 1; weight <= 4; weight++) {
            Checks.due("firstWeight()", cave.firstWeight(weight), 10 * weight);
        }
        for (int wrong : new int[] {0, 5, -1, FAR[0], FAR[1]}) {
            Checks.refuses("firstWeight(" + wrong + ")", ARGUMENT, Caves::rich, c -> c.firstWeight(wrong));
        }
    }

    private static void promise20() {
        Checks.due("loudness(), none", new CaveEchoes().loudness(), 0.0);
        Checks.due("loudness(), silent", Caves.of(0, 0).loudness(), 0.0);
        Checks.due("loudness()", Caves.of(-3, 4).loudness(), 3.5);
        Checks.due("loudness()", Caves.of(-99).loudness(), 99.0);
        Checks.due("loudness()", Caves.of(0, 1, 0).loudness(), 1.0 / 3.0);
        Checks.due("loudness()", Caves.of(10, -10, 3, 0, 0, 0, 0).loudness(), 23.0 / 7.0);
    }
}
