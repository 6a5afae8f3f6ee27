/** Caves that several tests begin with. */
final class Caves {
    private Caves() {
    }

    static void bare(CaveEchoes cave) {
    }

    /** Something of everything: more than six saved states, a letter, a snapshot and a text. */
    static void rich(CaveEchoes cave) {
        Checks.sound(cave, 10, 20, 30, 38, 5, -9, 0, 99, -99, 3);
        cave.keep(0);
        cave.send();
        cave.tamper(2, 7);
        cave.setDelay(2);
        cave.setWeight(3, -5);
        Checks.text(cave, "+5;s");
    }

    /** 48 samples, a text, and no letter. */
    static void full(CaveEchoes cave) {
        count(cave, 48);
        Checks.text(cave, "x");
    }

    /** 48 samples, and a letter that tells them. */
    static void fullAndSent(CaveEchoes cave) {
        count(cave, 48);
        cave.send();
    }

    static void count(CaveEchoes cave, int most) {
        for (int sample = 1; sample <= most; sample++) {
            cave.add(sample);
        }
    }

    /** A cave with the samples 1, 2, 3, and so on. */
    static CaveEchoes counting(int most) {
        CaveEchoes cave = new CaveEchoes();
        count(cave, most);
        return cave;
    }

    static CaveEchoes silent(int samples) {
        return of(new int[samples]);
    }

    /** A cave in which one kind alone is allowed. */
    static CaveEchoes only(int kind, int... samples) {
        CaveEchoes cave = new CaveEchoes();
        allowOnly(cave, kind);
        Checks.sound(cave, samples);
        return cave;
    }

    static void allowOnly(CaveEchoes cave, int kind) {
        for (int other = 0; other < 5; other++) {
            if (other != kind) {
                cave.turnKind(other);
            }
        }
    }

    static CaveEchoes of(int... samples) {
        CaveEchoes cave = new CaveEchoes();
        Checks.sound(cave, samples);
        return cave;
    }
}
