/** Caves that several tests begin with. */
final class Caves {
    private Caves() {
    }

    static void bare(CaveEchoes cave) {
    }

    /** Something of everything: more than six saved states, a letter, a snapshot and a text. */
    static void rich(CaveEchoes cave) {
        Checks.sound(cave, 10, 20, 30, 38, 5, -9, 0, 99, -99, 3);
        cave.keep(0);
        cave.send();
        cave.tamper(2, 7);
        cave.setDelay(2);
        cave.setWeight(3, -5);
        Checks.text(cave, "+5;s");
    }

    static void full(CaveEchoes cave) {
        for (int sample = 1; sample <= 48; sample++) {
            cave.add(sample);
        }
        Checks.text(cave, "x");
    }

    /** A cave in which one kind alone is allowed. */
    static CaveEchoes only(int kind, int... samples) {
        CaveEchoes cave = new CaveEchoes();
        allowOnly(cave, kind);
        Checks.sound(cave, samples);
        return cave;
    }

    static void allowOnly(CaveEchoes cave, int kind) {
        for (int other = 0; other < 5; other++) {
            if (other != kind) {
                cave.turnKind(other);
            }
        }
    }

    static CaveEchoes of(int... samples) {
        CaveEchoes cave = new CaveEchoes();
        Checks.sound(cave, samples);
        return cave;
    }
}
