/** Promises 11, 12 and 38 to 50: letters, who reads them, and what is heard. */
public final class LetterTest {
    private static final Class<?> ARGUMENT = IllegalArgumentException.class;
    private static final Class<?> STATE = IllegalStateException.class;
    private static final Class<?> INDEX = IndexOutOfBoundsException.class;
    private static final int[] FAR = {Integer.MIN_VALUE, Integer.MAX_VALUE};

    public static void main(String[] args) {
        promise11();
        promise11Stays();
        promise12();
        promise38();
        promises39To41();
        promises42And43();
        promises42And43Tampered();
        promises44And45();
        promises44And45ByWeights();
        promises44And45Restored();
        promises46And47();
        promises48And49();
        promise50();
        refuseNumbers();
        Checks.end("LetterTest");
    }

    private static CaveEchoes sent(CaveEchoes cave) {
        cave.send();
        return cave;
    }

    private static void heard(CaveEchoes cave, int... want) {
        for (int number = 0; number < want.length; number++) {
            Checks.due("heard(" + number + ")", cave.heard(number), want[number]);
            Checks.due("heardByBits(" + number + ")", cave.heardByBits(number), want[number]);
        }
    }

    private static String bits(CaveEchoes cave) {
        StringBuilder bits = new StringBuilder();
        for (int bit = 0; bit < cave.letterBits(); bit++) {
            bits.append(cave.letterBit(bit) ? 1 : 0);
        }
        return bits.toString();
    }

    private static void promise11() {
        CaveEchoes cave = Caves.of(1, -1, 0);
        Checks.due("send()", cave.send(), 12);
        Checks.due("told()", cave.told(), 3);
        cave.add(0);
        Checks.due("send() in place of it", cave.send(), 13);
        Checks.due("told()", cave.told(), 4);
        cave.undo();
        Checks.due("told() after undo()", cave.told(), 3);
        Checks.due("letterBits() after undo()", cave.letterBits(), 12);
        CaveEchoes full = Checks.make(Caves::full);
        Checks.due("send(), full", full.send(), full.bits());
        Checks.refuses("send(), none", STATE, Caves::bare, CaveEchoes::send);
        Checks.refuses("send(), emptied", STATE, c -> {
            Caves.rich(c);
            c.empty();
        }, CaveEchoes::send);
        Checks.undoes("send()", Caves::rich, CaveEchoes::send);
    }

    private static void promise11Stays() {
        CaveEchoes cave = Caves.only(CaveEchoes.WEIGHED, 10, 20, 30, 38, -50, 7, 3, 99, 98);
        cave.setDelay(2);
        cave.send();
        String before = bits(cave);
        cave.setSpeed(3);
        cave.setDelay(9);
        cave.setWeight(1, -64);
        cave.setWeight(4, 30);
        cave.change(3, -1);
        cave.turnKind(CaveEchoes.LAST);
        cave.empty();
        Checks.due("told() of the emptied", cave.told(), 9);
        Checks.due("bits of the letter", bits(cave), before);
        Checks.due("unlike()", cave.unlike(), 0);
        heard(cave, 10, 20, 30, 38, -50, 7, 3, 99, 98);
        CaveEchoes delayed = sent(Caves.only(CaveEchoes.DELAY, 10, 20, 30, 38, -50, 7));
        delayed.setDelay(1);
        heard(delayed, 10, 20, 30, 38, -50, 7);
    }

    private static void promise12() {
        CaveEchoes cave = sent(Caves.only(CaveEchoes.LAST, 10, 20, 30));
        Checks.due("tamper(1, -198)", cave.tamper(1, -198), 10);
        Checks.due("tamper(1, 198)", cave.tamper(1, 198), -198);
        Checks.due("letterLeft(1)", cave.letterLeft(1), 198);
        Checks.due("letterLeft(0)", cave.letterLeft(0), 10);
        Checks.due("sampleAt(1) stays", cave.sampleAt(1), 20);
        Checks.due("undo()", cave.undo(), 5);
        Checks.due("letterLeft(1) after undo()", cave.letterLeft(1), -198);
        cave.empty();
        Checks.due("tamper(2, 0), emptied", cave.tamper(2, 0), 10);
        for (int number : new int[] {-1, 10, 48, FAR[0], FAR[1]}) {
            Checks.refuses("tamper(" + number + ", 0)", INDEX, Caves::rich, c -> c.tamper(number, 0));
            Checks.refuses("tamper(" + number + ", 199)", INDEX, Caves::rich, c -> c.tamper(number, 199));
        }
        Checks.refuses("tamper(0, 0), no letter", INDEX, Caves::full, c -> c.tamper(0, 0));
        Checks.refuses("tamper(0, 199), no letter", INDEX, Caves::full, c -> c.tamper(0, 199));
        for (int left : new int[] {199, -199, FAR[0], FAR[1]}) {
            Checks.refuses("tamper(0, " + left + ")", ARGUMENT, Caves::rich, c -> c.tamper(0, left));
        }
        Checks.undoes("tamper(1, 1)", Caves::rich, c -> c.tamper(1, 1));
    }

    private static void promise38() {
        Checks.due("told(), no letter", Caves.of(1, 2).told(), 0);
        CaveEchoes cave = sent(Caves.of(1, 2));
        cave.add(3);
        Checks.due("told()", cave.told(), 2);
        Checks.due("told(), full", sent(Checks.make(Caves::full)).told(), 48);
    }

    private static void promises39To41() {
        CaveEchoes cave = Caves.of(50, 50, 50, 50, 50, 50, 50, 50, 0, 0, 0, 0, 0, 0, 0, 0, 9, 18, 27);
        int[] kinds = new int[3];
        int[] parameters = new int[3];
        for (int block = 0; block < 3; block++) {
            kinds[block] = cave.bestKind(block);
            parameters[block] = cave.bestParameter(block, kinds[block]);
        }
        int[] lefts = new int[19];
        for (int number = 0; number < 19; number++) {
            lefts[number] = cave.leftOver(kinds[number / 8], number);
        }
        cave.send();
        cave.empty();
        cave.turnKind(kinds[0]);
        for (int block = 0; block < 3; block++) {
            Checks.due("letterKind(" + block + ")", cave.letterKind(block), kinds[block]);
            Checks.due("letterParameter(" + block + ")", cave.letterParameter(block), parameters[block]);
        }
        for (int number = 0; number < 19; number++) {
            Checks.due("letterLeft(" + number + ")", cave.letterLeft(number), lefts[number]);
        }
        Checks.due("the kind of the first block", kinds[0], CaveEchoes.LAST);
        Checks.due("the kind of the second block", kinds[1], CaveEchoes.SILENCE);
        Checks.due("the kind of the third block", kinds[2], CaveEchoes.SLOPE);
    }

    private static void promises42And43() {
        Checks.due("letterBits(), no letter", Caves.of(1, 2).letterBits(), 0);
        Checks.due("SILENCE, 0; 2, 1 and 0", bits(sent(Caves.of(1, -1, 0))), "000" + "000" + "110" + "10" + "0");
        Checks.due("SILENCE, 6; 100", bits(sent(Caves.of(50))), "000" + "110" + "10" + "100100");
        Checks.due("SILENCE, 7; 197", bits(sent(Caves.of(-99))), "000" + "111" + "10" + "1000101");
        for (int kind = 0; kind < 5; kind++) {
            String head = new String[] {"000", "001", "010", "011", "100"}[kind];
            Checks.due("the head of a block", bits(sent(Caves.only(kind, 1))), head + "000" + "110");
        }
        String silence = "000" + "000" + "00000000";
        Checks.due("two blocks", bits(sent(Caves.of(0, 0, 0, 0, 0, 0, 0, 0, 1))), silence + "000000110");
        CaveEchoes full = Checks.make(Caves::full);
        Checks.due("bits, full", bits(sent(full)).length(), full.bits());
    }

    private static void promises42And43Tampered() {
        CaveEchoes cave = sent(Caves.of(1, -1, 0));
        cave.tamper(2, -3);
        Checks.due("2, 1 and 5", bits(cave), "000" + "000" + "110" + "10" + "111110");
        cave.tamper(0, 198);
        Checks.due("letterBits() with 396 ones", cave.letterBits(), 6 + 397 + 2 + 6);
        Checks.due("the last one of them", cave.letterBit(6 + 395), true);
        Checks.due("the nothing behind them", cave.letterBit(6 + 396), false);
        cave.tamper(0, -198);
        Checks.due("letterBits() with 395 ones", cave.letterBits(), 6 + 396 + 2 + 6);
        CaveEchoes silent = new CaveEchoes();
        for (int sample = 0; sample < 48; sample++) {
            silent.add(0);
        }
        silent.send();
        for (int number = 0; number < 48; number++) {
            silent.tamper(number, 198);
        }
        Checks.due("letterBits() of the longest", silent.letterBits(), 48 * 397 + 36);
        Checks.due("the last bit of it", silent.letterBit(48 * 397 + 35), false);
        Checks.due("the bit ahead of it", silent.letterBit(48 * 397 + 34), true);
        Checks.due("heard at the end of it", silent.heardByBits(47), 99);
        for (int bit : new int[] {-1, 48 * 397 + 36, FAR[0], FAR[1]}) {
            Checks.due("letterBit(" + bit + ")", Checks.thrownBy(silent, c -> c.letterBit(bit)), INDEX);
        }
    }

    private static void promises44And45() {
        CaveEchoes cave = sent(Caves.only(CaveEchoes.LAST, 10, 20, 30));
        heard(cave, 10, 20, 30);
        cave.tamper(0, 15);
        heard(cave, 15, 25, 35);
        cave.tamper(1, 5);
        heard(cave, 15, 20, 30);
        cave.tamper(2, -198);
        heard(cave, 15, 20, -99);
        cave.tamper(0, 198);
        heard(cave, 99, 99, -99);
        CaveEchoes slope = sent(Caves.only(CaveEchoes.SLOPE, 10, 20, 30));
        slope.tamper(0, 60);
        // 60, then 2 times 60 is 99 at most and 0 is left over, then 2 times 99 less 60 is 99 at most
        heard(slope, 60, 99, 99);
        CaveEchoes delay = sent(Caves.only(CaveEchoes.DELAY, 1, 2, 3, 4, 1, 2, 3, 4, 1));
        delay.tamper(0, -7);
        delay.tamper(7, 1);
        heard(delay, -7, 2, 3, 4, -7, 2, 3, 5, -7);
        CaveEchoes silence = sent(Caves.only(CaveEchoes.SILENCE, 1, 2, 3));
        silence.tamper(1, 101);
        heard(silence, 1, 99, 3);
    }

    private static void promises44And45ByWeights() {
        CaveEchoes cave = sent(Caves.only(CaveEchoes.WEIGHED, 10, 20, 30));
        // left-overs 10, 10, 9; now 10 is foretold, and 0 left over: the weight 1 stays 16
        cave.tamper(1, 0);
        heard(cave, 10, 10, 19);
        // 10 is foretold, -30 left over: the weight 1 is 15, and (15 * -20 + 8) / 16 is -19, rounded down
        cave.tamper(1, -30);
        heard(cave, 10, -20, -10);
        // 99 at most is heard, so that 0 is left over, and the weight stays 16
        cave.tamper(0, 99);
        cave.tamper(1, 60);
        heard(cave, 99, 99, 99);
        cave.tamper(2, -9);
        heard(cave, 99, 99, 90);
    }

    /** A letter that undo brings back is read by its own delay, speed and weights. */
    private static void promises44And45Restored() {
        Checks.Script[] changes = {c -> c.setDelay(1), c -> c.setSpeed(3), c -> c.setWeight(1, -9)};
        for (int i = 0; i < changes.length; i++) {
            int kind = i == 0 ? CaveEchoes.DELAY : CaveEchoes.WEIGHED;
            CaveEchoes cave = sent(Caves.only(kind, 10, 20, 30, -40, 50));
            changes[i].on(cave);
            cave.send();
            cave.undo();
            Checks.due("unlike() after undo()", cave.unlike(), 0);
            heard(cave, 10, 20, 30, -40, 50);
        }
        CaveEchoes bare = sent(Caves.only(CaveEchoes.WEIGHED, 10, 20, 30, -40, 50));
        Checks.due("heardByBits() by itself", bare.heardByBits(3), -40);
    }

    private static void promises46And47() {
        Checks.due("unlike(), no letter", Caves.of(1).unlike(), 0);
        Checks.due("firstUnlike(), no letter", Caves.of(1).firstUnlike(), -1);
        Checks.due("firstUnlike() by itself", sent(Caves.of(10, 20, 30)).firstUnlike(), -1);
        CaveEchoes cave = sent(Caves.only(CaveEchoes.LAST, 10, 20, 30));
        Checks.due("unlike()", cave.unlike(), 0);
        Checks.due("firstUnlike()", cave.firstUnlike(), -1);
        cave.tamper(1, 11);
        Checks.due("unlike()", cave.unlike(), 2);
        Checks.due("firstUnlike()", cave.firstUnlike(), 1);
        cave.tamper(2, 9);
        Checks.due("unlike()", cave.unlike(), 1);
        cave.tamper(0, 9);
        Checks.due("unlike()", cave.unlike(), 2);
        Checks.due("firstUnlike()", cave.firstUnlike(), 0);
        cave.empty();
        Checks.due("unlike(), emptied", cave.unlike(), 2);
        cave.change(cave.add(5), 6);
        Checks.due("unlike(), another sound", cave.unlike(), 2);
        cave.send();
        Checks.due("unlike(), sent anew", cave.unlike(), 0);
    }

    private static void promises48And49() {
        Checks.due("worst(), no letter", Caves.of(1).worst(), -1);
        CaveEchoes cave = sent(Caves.only(CaveEchoes.LAST, 10, 20, 30));
        for (int number = 0; number < 3; number++) {
            Checks.due("harm(" + number + ")", cave.harm(number), 3 - number);
        }
        Checks.due("worst()", cave.worst(), 0);
        Checks.due("letterLeft(0) stays", cave.letterLeft(0), 10);
        cave.tamper(0, 9);
        // 9, 19, 29 is heard; 1 more makes all as they were sent, or the others
        Checks.due("harm(0), tampered", cave.harm(0), 0);
        Checks.due("harm(1), tampered", cave.harm(1), 1);
        Checks.due("harm(2), tampered", cave.harm(2), 2);
        Checks.due("worst(), tampered", cave.worst(), 2);
        CaveEchoes loud = sent(Caves.only(CaveEchoes.LAST, 99, 5, 6));
        Checks.due("harm(0), 99 at most", loud.harm(0), 0);
        Checks.due("worst()", loud.worst(), 1);
        Checks.due("worst(), no harm at all", sent(Caves.of(99)).worst(), 0);
        CaveEchoes silence = sent(Caves.only(CaveEchoes.SILENCE, 5, 5, 5));
        Checks.due("worst(), of several", silence.worst(), 0);
        silence.tamper(1, 198);
        Checks.due("harm(1) of 199", silence.harm(1), 1);
    }

    private static void promise50() {
        CaveEchoes cave = Caves.of(1);
        Checks.due("sent()", cave.sent(), 0);
        cave.send();
        cave.send();
        Checks.due("sent()", cave.sent(), 2);
        cave.undo();
        Checks.due("sent() after undo()", cave.sent(), 1);
        cave.empty();
        Checks.due("sent(), emptied", cave.sent(), 1);
        Checks.due("send() throws", Checks.thrownBy(cave, CaveEchoes::send), STATE);
        Checks.due("sent(), one refused", cave.sent(), 1);
    }

    private static void refuseNumbers() {
        for (int wrong : new int[] {-1, 10, 48, FAR[0], FAR[1]}) {
            Checks.refuses("letterLeft(" + wrong + ")", INDEX, Caves::rich, c -> c.letterLeft(wrong));
            Checks.refuses("heard(" + wrong + ")", INDEX, Caves::rich, c -> c.heard(wrong));
            Checks.refuses("heardByBits(" + wrong + ")", INDEX, Caves::rich, c -> c.heardByBits(wrong));
            Checks.refuses("harm(" + wrong + ")", INDEX, Caves::rich, c -> c.harm(wrong));
        }
        for (int wrong : new int[] {-1, 2, 6, FAR[0], FAR[1]}) {
            Checks.refuses("letterKind(" + wrong + ")", INDEX, Caves::rich, c -> c.letterKind(wrong));
            Checks.refuses("letterParameter(" + wrong + ")", INDEX, Caves::rich, c -> c.letterParameter(wrong));
        }
        Checks.refuses("letterBit(-1)", INDEX, Caves::rich, c -> c.letterBit(-1));
        Checks.refuses("letterBit() of the next", INDEX, Caves::rich, c -> c.letterBit(c.letterBits()));
        Checks.refuses("letterKind(0), no letter", INDEX, Caves::full, c -> c.letterKind(0));
        Checks.refuses("letterParameter(0), no letter", INDEX, Caves::full, c -> c.letterParameter(0));
        Checks.refuses("letterLeft(0), no letter", INDEX, Caves::full, c -> c.letterLeft(0));
        Checks.refuses("letterBit(0), no letter", INDEX, Caves::full, c -> c.letterBit(0));
        Checks.refuses("heard(0), no letter", INDEX, Caves::full, c -> c.heard(0));
        Checks.refuses("heardByBits(0), no letter", INDEX, Caves::full, c -> c.heardByBits(0));
        Checks.refuses("harm(0), no letter", INDEX, Caves::full, c -> c.harm(0));
    }
}
