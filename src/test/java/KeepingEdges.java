import java.math.BigInteger;

/** Edges of undo, of snapshots and of the digest: their terms, and promises 51, 52, 57 and 58. */
final class KeepingEdges extends Edge {
    private static final String STATES = "The state is everything except the text, the saved states and the snapshots.";
    private static final String NO_SLOT = "Throws `IndexOutOfBoundsException` if there is no such slot";
    private static final String SLOT = "`slot`: 0 or 1";

    private KeepingEdges() {
    }

    static void tell() {
        saves();
        keepsSix();
        stateIsNot();
        stateIs();
        stateIsFull();
        keep();
        goBack();
        goBackRefuses();
        undo();
        digest();
        digestValues();
    }

    /** Two samples, a letter, a snapshot in the slot 0, works; and four saved states. */
    private static void small(CaveEchoes cave) {
        Checks.sound(cave, 10, -20);
        cave.send();
        cave.keep(0);
        cave.tamper(1, 5);
        Checks.text(cave, "+1;s");
    }

    private static final Checks.Script[] UNDOABLE = {c -> c.add(1), c -> c.echo(1, 1, 1), c -> c.change(0, 1),
        CaveEchoes::drop, CaveEchoes::empty, c -> c.setDelay(1), c -> c.setSpeed(0), c -> c.setWeight(1, 1),
        c -> c.turnKind(0), CaveEchoes::send, c -> c.tamper(0, 1), c -> c.goBack(0), CaveEchoes::doWorks};

    private static final Checks.Script[] OTHERS = {CaveEchoes::samples, c -> c.sampleAt(0), CaveEchoes::blocks,
        CaveEchoes::delay, CaveEchoes::speed, CaveEchoes::allowed, c -> c.firstWeight(1), CaveEchoes::loudness,
        c -> c.weightAt(1, 1), c -> c.weightByCounting(1, 1), c -> c.foretold(4, 1), c -> c.leftOver(4, 1),
        c -> c.sumOf(4), c -> c.sumWithDelay(1), CaveEchoes::bestDelay, CaveEchoes::bestSpeed, c -> c.bestFirst(1),
        c -> c.bitsWith(0, 0, 0), c -> c.bestParameter(0, 0), c -> c.bestKind(0), c -> c.whyBest(0), CaveEchoes::bits,
        CaveEchoes::bitsByKinds, c -> c.blocksWith(0), c -> c.bitsIfOnly(0), CaveEchoes::told, c -> c.letterKind(0),
        c -> c.letterParameter(0), c -> c.letterLeft(0), CaveEchoes::letterBits, c -> c.letterBit(0), c -> c.heard(0),
        c -> c.heardByBits(0), CaveEchoes::unlike, CaveEchoes::firstUnlike, c -> c.harm(0), CaveEchoes::worst,
        CaveEchoes::sent, c -> c.keep(0), c -> c.keep(1), c -> c.append('1'), CaveEchoes::clearText,
        CaveEchoes::firstError, CaveEchoes::digest};

    private static final Checks.Script[] REFUSED = {c -> c.add(100), c -> c.echo(0, 1, 1), c -> c.change(2, 1),
        c -> c.setDelay(0), c -> c.setSpeed(4), c -> c.setWeight(0, 1), c -> c.turnKind(5), c -> c.tamper(2, 1),
        c -> c.goBack(1), c -> c.goBack(2), c -> c.keep(2), c -> c.append(32), c -> c.sampleAt(2)};

    private static void saves() {
        String sentence = "Each method that is marked \"Undoable\" saves the state as it was before the call, unless it throws an exception.";
        holds(TERMS, sentence, () -> {
            for (int i = 0; i < UNDOABLE.length; i++) {
                undoes(KeepingEdges::small, "the call " + i + " that is marked", UNDOABLE[i]);
                due("states saved", Checks.depth(with(Checks.make(KeepingEdges::small), UNDOABLE[i])), 5);
            }
        });
        holds(TERMS, sentence, () -> {
            for (int i = 0; i < REFUSED.length; i++) {
                CaveEchoes cave = Checks.make(KeepingEdges::small);
                due("the refused call " + i + " throws", Checks.thrownBy(cave, REFUSED[i]) == null, false);
                due("states saved", Checks.depth(cave), 4);
            }
        });
        holds(TERMS, sentence, () -> {
            for (int i = 0; i < OTHERS.length; i++) {
                CaveEchoes cave = with(Checks.make(KeepingEdges::small), OTHERS[i]);
                long before = cave.digest();
                due("digest() behind the call " + i, before, Checks.make(KeepingEdges::small).digest());
                due("states saved", Checks.depth(cave), 4);
            }
        });
    }

    private static void keepsSix() {
        holds(TERMS, "At most 6 states are kept; when a seventh is saved, the oldest one is dropped.", () -> {
            CaveEchoes six = Caves.counting(6);
            for (int left = 5; left >= 0; left--) {
                due("undo() of six", six.undo(), left);
                due("samples()", six.samples(), left);
            }
            due("undo() of none throws", Checks.thrownBy(six, CaveEchoes::undo), STATE);
            CaveEchoes seven = Caves.counting(7);
            for (int left = 5; left >= 0; left--) {
                due("undo() of seven", seven.undo(), left);
                due("samples()", seven.samples(), left + 1);
            }
            due("undo() of the dropped throws", Checks.thrownBy(seven, CaveEchoes::undo), STATE);
        });
        holds(TERMS, "when a seventh is saved, the oldest one is dropped", () -> {
            CaveEchoes many = Caves.counting(20);
            due("states saved", Checks.depth(many), 6);
            due("samples()", many.samples(), 14);
            // the rows of the dropped ones are good for others
            Caves.count(many, 13);
            due("undo()", many.undo(), 5);
            due("samples()", many.samples(), 26);
            due("the last sample", many.sampleAt(25), 12);
        });
    }

    private static void stateIsNot() {
        holds(TERMS, STATES, () -> {
            CaveEchoes cave = Caves.of(5);
            Checks.text(cave, "s;x");
            cave.undo();
            due("clearText(), undone", cave.clearText(), 3);
            cave.keep(0);
            Checks.text(cave, "x");
            cave.goBack(0);
            due("firstError(), gone back", cave.firstError(), -1);
            cave.clearText();
            cave.undo();
            due("clearText(), undone", cave.clearText(), 0);
        });
        holds(TERMS, STATES, () -> {
            CaveEchoes cave = Caves.of(1, 2);
            cave.keep(0);
            Caves.count(cave, 2);
            due("goBack(0)", cave.goBack(0), 2);
            due("undo() of the fifth", cave.undo(), 4);
            due("samples()", cave.samples(), 4);
        });
        holds(TERMS, STATES, () -> {
            CaveEchoes cave = Caves.of(1, 2);
            cave.keep(1);
            cave.undo();
            due("goBack(1), though undone", cave.goBack(1), 2);
            cave.keep(0);
            cave.undo();
            due("goBack(0), though undone", cave.goBack(0), 2);
            due("goBack(1), though gone back", cave.goBack(1), 2);
            due("goBack(0), though gone back", cave.goBack(0), 2);
        });
    }

    /** Each part of the state by itself; the letter's own delay, speed, weights and sound show in what is heard. */
    private static final Checks.Script[] PARTS = {c -> c.add(1), c -> c.change(0, 1), CaveEchoes::drop,
        c -> c.setDelay(1), c -> c.setSpeed(0), c -> c.setWeight(1, 1), c -> c.setWeight(4, 1), c -> c.turnKind(0),
        c -> c.turnKind(2), CaveEchoes::send, c -> c.tamper(0, 1), c -> c.tamper(11, 1), KeepingEdges::another};

    /** A letter that is told by other means. */
    private static void another(CaveEchoes cave) {
        cave.setDelay(3);
        cave.setSpeed(3);
        cave.setWeight(1, -3);
        cave.setWeight(4, 33);
        cave.change(0, -99);
        cave.send();
    }

    private static final int[] TWELVE = {10, 20, 30, 38, 5, -9, 0, 99, -99, 3, 50, 51};

    /** Twelve samples, and a letter by one kind alone. */
    private static CaveEchoes twelve(int kind) {
        return sent(Caves.only(kind, TWELVE));
    }

    private static void stateIs() {
        holds(TERMS, STATES, () -> {
            for (int i = 0; i < PARTS.length; i++) {
                for (int kind = CaveEchoes.DELAY; kind <= CaveEchoes.WEIGHED; kind++) {
                    CaveEchoes cave = with(twelve(kind), PARTS[i]);
                    int calls = i == PARTS.length - 1 ? 6 : 1;
                    for (int undone = 0; undone < calls; undone++) {
                        cave.undo();
                    }
                    due("digest() of the part " + i + ", undone", cave.digest(), twelve(kind).digest());
                    heard(cave, TWELVE);
                }
            }
        });
        holds(TERMS, STATES, () -> {
            for (int i = 0; i < PARTS.length; i++) {
                for (int kind = CaveEchoes.DELAY; kind <= CaveEchoes.WEIGHED; kind++) {
                    CaveEchoes cave = twelve(kind);
                    cave.keep(i % 2);
                    PARTS[i].on(cave);
                    cave.goBack(i % 2);
                    due("digest() of the part " + i + ", gone back", cave.digest(), twelve(kind).digest());
                    heard(cave, TWELVE);
                }
            }
        });
    }

    /** 48 samples, the last block of the letter by LAST. */
    private static void loudAtLast(CaveEchoes cave) {
        for (int number = 0; number < 48; number++) {
            cave.add(number < 40 ? 0 : 50);
        }
        cave.send();
    }

    private static void changeAtLast(CaveEchoes cave) {
        cave.change(47, -99);
        cave.turnKind(CaveEchoes.LAST);
        cave.turnKind(CaveEchoes.WEIGHED);
        cave.send();
    }

    private static void isLoudAtLast(CaveEchoes cave) {
        due("sampleAt(47)", cave.sampleAt(47), 50);
        due("letterKind(5)", cave.letterKind(5), CaveEchoes.LAST);
        due("letterParameter(5)", cave.letterParameter(5), 3);
        due("letterLeft(47)", cave.letterLeft(47), 0);
        due("heard(47)", cave.heard(47), 50);
        due("unlike()", cave.unlike(), 0);
    }

    private static void stateIsFull() {
        holds(TERMS, STATES, () -> {
            CaveEchoes cave = Checks.make(KeepingEdges::loudAtLast);
            changeAtLast(cave);
            due("letterKind(5), changed", cave.letterKind(5), CaveEchoes.SLOPE);
            due("letterParameter(5), changed", cave.letterParameter(5), 6);
            for (int undone = 0; undone < 4; undone++) {
                cave.undo();
            }
            isLoudAtLast(cave);
        });
        holds(TERMS, STATES, () -> {
            CaveEchoes cave = Checks.make(KeepingEdges::loudAtLast);
            cave.keep(1);
            changeAtLast(cave);
            cave.goBack(1);
            isLoudAtLast(cave);
        });
    }

    private static void keep() {
        holds(51, "Takes a snapshot of the state, in place of the one in the slot.", () -> {
            CaveEchoes cave = Caves.of(1, 2);
            cave.keep(0);
            cave.add(3);
            cave.keep(0);
            cave.empty();
            due("goBack(0)", cave.goBack(0), 3);
        });
        holds(51, SLOT, () -> {
            CaveEchoes cave = Caves.of(1, 2, 3);
            cave.keep(0);
            cave.drop();
            cave.keep(1);
            cave.empty();
            due("goBack(0)", cave.goBack(0), 3);
            due("goBack(1)", cave.goBack(1), 2);
        });
        holds(51, "Returns the number of samples.", () -> {
            due("keep(0), none", new CaveEchoes().keep(0), 0);
            due("keep(1), full", Caves.counting(48).keep(1), 48);
        });
        holds(51, NO_SLOT, () -> {
            for (int wrong : beyond(0, 1)) {
                refuses(INDEX, Caves::rich, "keep(" + wrong + ")", c -> c.keep(wrong));
                refuses(INDEX, Caves::bare, "keep(" + wrong + ")", c -> c.keep(wrong));
            }
        });
    }

    private static void goBack() {
        holds(52, "Goes back to the snapshot of a slot, which stays.", () -> {
            CaveEchoes cave = Caves.of(1, 2);
            cave.keep(0);
            cave.change(0, 50);
            cave.goBack(0);
            samples(cave, 1, 2);
            // what is changed then does not change the snapshot
            cave.change(1, 60);
            cave.setDelay(9);
            cave.goBack(0);
            samples(cave, 1, 2);
            due("delay()", cave.delay(), 4);
        });
        holds(52, "Undoable.", () -> {
            undoes(Caves::rich, "goBack(0)", c -> c.goBack(0));
            CaveEchoes cave = new CaveEchoes();
            cave.keep(0);
            cave.goBack(0);
            due("undo() though nothing changed", cave.undo(), 0);
        });
        holds(52, SLOT, () -> {
            CaveEchoes cave = Caves.of(1);
            cave.keep(0);
            cave.add(2);
            cave.keep(1);
            due("goBack(0)", cave.goBack(0), 1);
            due("goBack(1)", cave.goBack(1), 2);
        });
        holds(52, "Returns the number of samples then.", () -> {
            CaveEchoes cave = new CaveEchoes();
            cave.keep(0);
            Caves.count(cave, 48);
            cave.keep(1);
            due("goBack(0), none", cave.goBack(0), 0);
            due("goBack(1), full", cave.goBack(1), 48);
        });
    }

    private static void goBackRefuses() {
        holds(52, NO_SLOT, () -> {
            for (int wrong : beyond(0, 1)) {
                refuses(INDEX, Caves::rich, "goBack(" + wrong + ")", c -> c.goBack(wrong));
            }
        });
        holds(52, "Throws `IllegalStateException` if there is no snapshot in it", () -> {
            refuses(STATE, Caves::bare, "goBack(0), new", c -> c.goBack(0));
            refuses(STATE, Caves::bare, "goBack(1), new", c -> c.goBack(1));
            refuses(STATE, c -> c.keep(0), "goBack(1), one in the other slot", c -> c.goBack(1));
            refuses(STATE, c -> c.keep(1), "goBack(0), one in the other slot", c -> c.goBack(0));
        });
        holds(52, FIRST_OF_SEVERAL, () -> {
            refuses(INDEX, Caves::bare, "goBack(2), new", c -> c.goBack(2));
            refuses(INDEX, Caves::bare, "goBack(-1), new", c -> c.goBack(-1));
        });
    }

    private static void undo() {
        holds(57, "Restores the state that was saved last, and drops it.", () -> {
            CaveEchoes cave = Caves.of(1, 2, 3);
            cave.undo();
            samples(cave, 1, 2);
            cave.undo();
            samples(cave, 1);
            cave.add(9);
            cave.undo();
            samples(cave, 1);
        });
        holds(57, "Returns the number of states that are left.", () -> {
            due("undo() of one", Caves.of(1).undo(), 0);
            due("undo() of six", Caves.counting(6).undo(), 5);
            due("undo() of many", Caves.counting(48).undo(), 5);
        });
        holds(57, "Throws `IllegalStateException` if no state is saved", () -> {
            refuses(STATE, Caves::bare, "undo(), new", CaveEchoes::undo);
            refuses(STATE, c -> {
                Caves.rich(c);
                Checks.depth(c);
            }, "undo(), all undone", CaveEchoes::undo);
            refuses(STATE, c -> c.keep(0), "undo() of what saves nothing", CaveEchoes::undo);
        });
    }

    private static void digest() {
        holds(58, "Computes a hash of the state.", () -> {
            for (int i = 0; i < PARTS.length; i++) {
                CaveEchoes cave = with(twelve(CaveEchoes.WEIGHED), PARTS[i]);
                boolean same = cave.digest() == twelve(CaveEchoes.WEIGHED).digest();
                due("digest() is the same behind the part " + i, same, false);
            }
        });
        holds(58, "The hash starts at 798.", () -> {
            // all that a new object tells: no sample and no letter
            long[] values = {0, 4, 1, 31, 0, 1, 0, -64, 0, 0, 0, -1, -1, 0, 0, 16, 0, 0, 0};
            BigInteger hash = BigInteger.valueOf(798);
            for (int i = 0; i < values.length + 5 * 4; i++) {
                long value = i < values.length ? values[i] : 0;
                hash = hash.multiply(BigInteger.valueOf(31)).add(BigInteger.valueOf(value));
            }
            due("digest(), new", new CaveEchoes().digest(), hash.longValue());
        });
        holds(58, "For each value v of the following list, in order, the hash becomes 31 * hash + v, in long arithmetic with overflow", () -> {
            Checks.Script[] scripts = {Caves::bare, Caves::rich, Caves::full, Caves::fullAndSent, c -> c.add(-99)};
            for (Checks.Script script : scripts) {
                BigInteger whole = Digest.whole(script);
                due("the hash without overflow is too long", whole.bitLength() > 64, true);
                due("digest()", Checks.make(script).digest(), whole.longValue());
            }
        });
        holds(58, "Returns the hash.", () -> {
            CaveEchoes cave = Checks.make(Caves::rich);
            long before = cave.digest();
            due("digest() again", cave.digest(), before);
            cave.keep(1);
            cave.append('1');
            due("digest() of the same state", cave.digest(), before);
        });
    }

    private static void digests(String what, Checks.Script built) {
        due("digest() of " + what, Checks.make(built).digest(), Digest.of(built));
    }

    private static void digestValues() {
        holds(58, "(a boolean is 1 for true, 0 for false)", () -> {
            digests("seven bits", c -> sent(with(c, d -> d.add(0))));
            digests("many ones", c -> sent(with(c, d -> d.add(0))).tamper(0, 198));
        });
        holds(58, "the values of samples(), delay(), speed(), allowed(), bits(), bestDelay(), bestSpeed(), bestFirst() of the weight 1, told(), letterBits(), unlike(), firstUnlike(), worst(), sent()", () -> {
            digests("a letter without a sound", c -> with(c, Caves::rich).empty());
            digests("a sound without a letter", Caves::full);
            digests("something of everything", Caves::rich);
        });
        holds(58, "the bits of loudness() (as Double.doubleToLongBits)", () -> {
            for (int count = 1; count <= 48; count++) {
                int[] sums = {0, 1, count - 1, count, count + 1, 2 * count - 1, 2 * count, 98 * count + 1, 99 * count};
                for (int sum : sums) {
                    int[] sound = loud(count, sum);
                    due("loudness() of " + sum + " / " + count, Caves.of(sound).loudness(), sum / (double) count);
                    digests("loudness " + sum + " / " + count, c -> Checks.sound(c, sound));
                }
            }
        });
        holds(58, "firstWeight() for each weight; for each kind sumOf(), blocksWith(), bitsIfOnly(), and foretold() for the next sample", () -> {
            for (int weight = 1; weight <= 4; weight++) {
                int changed = weight;
                digests("a first value", c -> with(c, Caves::full).setWeight(changed, -64));
            }
            digests("nothing but a delay", c -> c.setDelay(12));
        });
        holds(58, "for each sample sampleAt(), leftOver() by WEIGHED, and weightAt() for each weight; for each block bestKind(), whyBest(), and bestParameter() for each kind; for each block of the letter letterKind() and letterParameter(); for each sample of the letter letterLeft() and heard(); for each bit of the letter letterBit().", () -> {
            int[] counts = {1, 7, 8, 9, 40, 41, 48};
            for (int count : counts) {
                Checks.Script built = c -> sent(with(c, d -> Caves.count(d, count))).tamper(count - 1, -9);
                digests("a letter of " + count, built);
                digests("a letter of " + count + ", and a sound of one less", c -> with(c, built).drop());
            }
        });
    }

    /** As many samples as are told, with the sum of their sizes. */
    private static int[] loud(int count, int sum) {
        int[] sound = new int[count];
        int left = sum;
        for (int number = 0; number < count; number++) {
            int size = Math.min(99, left);
            sound[number] = number % 2 == 0 ? size : -size;
            left -= size;
        }
        return sound;
    }
}
