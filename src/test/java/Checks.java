import java.util.ArrayList;
import java.util.List;
import java.util.Objects;

/** What the tests share: answers that are due, exceptions that are due, and how a test ends. */
final class Checks {
    interface Script {
        void on(CaveEchoes cave);
    }

    private static int checks = 0;
    private static int wrong = 0;

    private Checks() {
    }

    static int checks() {
        return checks;
    }

    static int wrong() {
        return wrong;
    }

    static void due(String what, Object answer, Object want) {
        checks++;
        if (!Objects.equals(answer, want)) {
            wrong++;
            System.out.println(what + " answered " + answer + ", due is " + want);
        }
    }

    /** The call throws exactly this class, and the cave is as one on which it was never called. */
    static void refuses(String what, Class<?> want, Script built, Script call) {
        CaveEchoes called = make(built);
        due(what + " throws", thrownBy(called, call), want);
        due(what + " leaves behind", told(called), told(make(built)));
    }

    /** The call saves the state ahead of it: it can be undone, and nothing else is undone by that. */
    static void undoes(String what, Script built, Script call) {
        CaveEchoes cave = make(built);
        long before = cave.digest();
        int saved = depth(make(built));
        call.on(cave);
        due(what + ": states saved but this one", cave.undo(), Math.min(5, saved));
        due(what + ": digest after undo", cave.digest(), before);
    }

    static CaveEchoes make(Script built) {
        CaveEchoes cave = new CaveEchoes();
        built.on(cave);
        return cave;
    }

    static Class<?> thrownBy(CaveEchoes cave, Script call) {
        try {
            call.on(cave);
            return null;
        } catch (RuntimeException e) {
            return e.getClass();
        }
    }

    static int depth(CaveEchoes cave) {
        int depth = 0;
        while (thrownBy(cave, CaveEchoes::undo) == null) {
            depth++;
        }
        return depth;
    }

    /** All that can be found out of a cave: its state, saved states, snapshots and text; it is used up. */
    static List<Object> told(CaveEchoes cave) {
        List<Object> all = new ArrayList<>();
        all.add(cave.digest());
        while (thrownBy(cave, CaveEchoes::undo) == null) {
            all.add(cave.digest());
        }
        for (int slot = 0; slot < 2; slot++) {
            int place = slot;
            all.add(String.valueOf(thrownBy(cave, c -> c.goBack(place))));
            all.add(cave.digest());
        }
        all.add(cave.firstError());
        all.add(String.valueOf(thrownBy(cave, CaveEchoes::doWorks)));
        all.add(cave.digest());
        all.add(cave.clearText());
        return all;
    }

    static void sound(CaveEchoes cave, int... samples) {
        for (int sample : samples) {
            cave.add(sample);
        }
    }

    static void text(CaveEchoes cave, String text) {
        for (int i = 0; i < text.length(); i++) {
            cave.append(text.charAt(i));
        }
    }

    static void end(String test) {
        System.out.println(test + ": " + checks + " checks, " + wrong + " wrong");
        if (wrong != 0 || checks == 0) {
            System.exit(1);
        }
    }
}
