import java.util.ArrayList;
import java.util.List;

/** Promises 51, 52, 57 and 58: snapshots, undo and the digest. */
public final class KeepingTest {
    private static final Class<?> STATE = IllegalStateException.class;
    private static final Class<?> INDEX = IndexOutOfBoundsException.class;

    public static void main(String[] args) {
        promise51();
        promise52();
        promise52HasAll();
        promise57();
        promise57HasAll();
        promise58();
        promise58Tells();
        Checks.end("KeepingTest");
    }

    private static void promise51() {
        CaveEchoes cave = Caves.of(1, 2, 3);
        Checks.due("keep(0)", cave.keep(0), 3);
        cave.drop();
        Checks.due("keep(1)", cave.keep(1), 2);
        cave.drop();
        Checks.due("goBack(0)", cave.goBack(0), 3);
        Checks.due("goBack(1)", cave.goBack(1), 2);
        Checks.due("keep(0), in place of it", cave.keep(0), 2);
        Checks.due("goBack(0)", cave.goBack(0), 2);
        CaveEchoes saved = Caves.of(1);
        saved.keep(0);
        Checks.due("keep() is not undone: undo()", saved.undo(), 0);
        Checks.due("the snapshot stays", saved.goBack(0), 1);
        for (int slot : new int[] {-1, 2, Integer.MIN_VALUE, Integer.MAX_VALUE}) {
            Checks.refuses("keep(" + slot + ")", INDEX, Caves::rich, c -> c.keep(slot));
        }
    }

    private static void promise52() {
        CaveEchoes cave = Caves.of(1, 2);
        cave.keep(1);
        Checks.due("empty()", cave.empty(), 2);
        Checks.due("goBack(1)", cave.goBack(1), 2);
        cave.change(0, 50);
        Checks.due("goBack(1) again, it stays", cave.goBack(1), 2);
        Checks.due("sampleAt(0)", cave.sampleAt(0), 1);
        Checks.due("undo()", cave.undo(), 5);
        Checks.due("sampleAt(0) after undo()", cave.sampleAt(0), 50);
        Checks.text(cave, "x;s");
        cave.goBack(1);
        Checks.due("the text stays", cave.clearText(), 3);
        Checks.refuses("goBack(1), nothing there", STATE, Caves::rich, c -> c.goBack(1));
        for (int slot : new int[] {-1, 2, Integer.MIN_VALUE, Integer.MAX_VALUE}) {
            Checks.refuses("goBack(" + slot + ")", INDEX, Caves::rich, c -> c.goBack(slot));
        }
        Checks.undoes("goBack(0)", Caves::rich, c -> c.goBack(0));
    }

    private static final String[] ALL = {"samples", "delay", "speed", "allowed", "weight", "letter", "sent"};

    private static void changeAll(CaveEchoes cave) {
        cave.echo(9, 2, 8);
        cave.change(0, -8);
        cave.setDelay(11);
        cave.setSpeed(3);
        cave.setWeight(2, -30);
        cave.turnKind(1);
        cave.send();
        cave.tamper(3, 33);
        cave.setWeight(1, 6);
        cave.drop();
    }

    private static List<Integer> all(CaveEchoes cave) {
        List<Integer> all = new ArrayList<>();
        all.add(cave.samples() * 1000 + cave.sampleAt(0));
        all.add(cave.delay());
        all.add(cave.speed());
        all.add(cave.allowed());
        all.add(cave.firstWeight(1) * 1000 + cave.firstWeight(2));
        all.add(cave.told() * 1000 + cave.letterLeft(3) + cave.letterBits());
        all.add(cave.sent());
        return all;
    }

    private static void promise52HasAll() {
        CaveEchoes cave = Checks.make(Caves::rich);
        cave.keep(1);
        long digest = cave.digest();
        List<Integer> before = all(cave);
        changeAll(cave);
        List<Integer> changed = all(cave);
        for (int i = 0; i < ALL.length; i++) {
            Checks.due(ALL[i] + " changed", changed.get(i).equals(before.get(i)), false);
        }
        long other = cave.digest();
        cave.goBack(1);
        Checks.due("all as it was kept", all(cave), before);
        Checks.due("digest() as it was kept", cave.digest(), digest);
        cave.undo();
        Checks.due("all after undo()", all(cave), changed);
        Checks.due("digest() after undo()", cave.digest(), other);
    }

    private static void promise57() {
        CaveEchoes cave = new CaveEchoes();
        for (int sample = 1; sample <= 9; sample++) {
            cave.add(sample);
        }
        for (int left = 5; left >= 0; left--) {
            Checks.due("undo()", cave.undo(), left);
            Checks.due("samples()", cave.samples(), 3 + left);
        }
        Checks.refuses("undo(), no state is saved", STATE, c -> {
            Caves.rich(c);
            Checks.depth(c);
        }, CaveEchoes::undo);
        cave.add(50);
        Checks.due("undo() of one", cave.undo(), 0);
        Checks.due("samples()", cave.samples(), 3);
        // a call that throws saves nothing
        cave.add(60);
        Checks.due("add(100) throws", Checks.thrownBy(cave, c -> c.add(100)), IllegalArgumentException.class);
        Checks.due("undo()", cave.undo(), 0);
    }

    private static void promise57HasAll() {
        CaveEchoes cave = Checks.make(Caves::rich);
        cave.keep(0);
        cave.keep(1);
        List<Integer> before = all(cave);
        long digest = cave.digest();
        Checks.text(cave, ";+3;-4;d9;v2;k0;w1:5;s;t3:9");
        cave.doWorks();
        List<Integer> changed = all(cave);
        for (int i = 0; i < ALL.length; i++) {
            boolean same = changed.get(i).equals(before.get(i));
            Checks.due(ALL[i] + " changed", same, false);
        }
        cave.undo();
        Checks.due("all after undo()", all(cave), before);
        Checks.due("digest() after undo()", cave.digest(), digest);
    }

    private static void promise58() {
        Checks.due("digest() of a new object", new CaveEchoes().digest(), Digest.of(Caves::bare));
        Checks.Script[] scripts = {Caves::rich, Caves::full, KeepingTest::changeAllOfRich, c -> c.echo(16, 1, 1)};
        for (Checks.Script script : scripts) {
            CaveEchoes built = Checks.make(script);
            Checks.due("digest()", built.digest(), Digest.of(script));
            Checks.due("digest() again", built.digest(), built.digest());
        }
        for (int sum = 0; sum <= 99; sum++) {
            // loudness() of 7 samples, from 0 and 1/7 up
            int[] sound = {-sum, sum, 0, 0, 1, 0, sum / 2};
            Checks.due("digest()", Caves.of(sound).digest(), Digest.of(c -> Checks.sound(c, sound)));
        }
    }

    private static void changeAllOfRich(CaveEchoes cave) {
        Caves.rich(cave);
        changeAll(cave);
    }

    private static void promise58Tells() {
        Checks.Script[] changes = {c -> c.add(1), c -> c.change(3, 37), CaveEchoes::drop, c -> c.setDelay(5),
            c -> c.setSpeed(2), c -> c.setWeight(4, 1), c -> c.turnKind(0), CaveEchoes::send, c -> c.tamper(5, 1)};
        for (int i = 0; i < changes.length; i++) {
            CaveEchoes cave = Checks.make(Caves::rich);
            long before = cave.digest();
            changes[i].on(cave);
            Checks.due("digest() tells the change " + i, cave.digest() == before, false);
        }
        CaveEchoes cave = Checks.make(Caves::rich);
        long before = cave.digest();
        cave.keep(0);
        cave.append('+');
        Checks.due("digest() does not tell texts and snapshots", cave.digest(), before);
    }
}
