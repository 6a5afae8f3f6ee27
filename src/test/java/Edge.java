import java.util.ArrayList;
import java.util.List;

/**
 * One test for one sentence of the document. The sentence is quoted as it stands in the section of
 * the promise that is named, or in the "Terms"; EdgesTest finds out whether all of them are quoted.
 */
abstract class Edge {
    interface Test {
        void run();
    }

    record Quote(int promise, String sentence) {
    }

    static final int TERMS = 0;
    static final Class<?> ARGUMENT = IllegalArgumentException.class;
    static final Class<?> STATE = IllegalStateException.class;
    static final Class<?> INDEX = IndexOutOfBoundsException.class;
    static final String FIRST_OF_SEVERAL = "If several exceptions apply to a call, the one that stands first in its throws clause is thrown.";

    private static final List<Quote> QUOTES = new ArrayList<>();

    static List<Quote> quotes() {
        return QUOTES;
    }

    /** Runs the test of a sentence, and tells the sentence if it does not hold. */
    static void holds(int promise, String sentence, Test test) {
        QUOTES.add(new Quote(promise, sentence));
        int checks = Checks.checks();
        int wrong = Checks.wrong();
        try {
            test.run();
        } catch (RuntimeException e) {
            Checks.due("the test ends without", e.toString(), "an exception");
        }
        if (Checks.wrong() > wrong || Checks.checks() == checks) {
            String where = promise == TERMS ? "the terms" : "promise " + promise;
            System.out.println("does not hold, " + where + ": " + sentence);
        }
        Checks.due("checks of: " + sentence, Checks.checks() > checks, true);
    }

    static void due(String what, Object answer, Object want) {
        Checks.due(what, answer, want);
    }

    static void refuses(Class<?> want, Checks.Script built, String what, Checks.Script call) {
        Checks.refuses(what, want, built, call);
    }

    static void undoes(Checks.Script built, String what, Checks.Script call) {
        Checks.undoes(what, built, call);
    }

    /** Values just outside of a range, and as far from it as can be. */
    static int[] beyond(int least, int most) {
        return new int[] {least - 1, most + 1, Integer.MIN_VALUE, Integer.MAX_VALUE};
    }

    static void samples(CaveEchoes cave, int... want) {
        due("samples()", cave.samples(), want.length);
        for (int number = 0; number < want.length && number < cave.samples(); number++) {
            due("sampleAt(" + number + ")", cave.sampleAt(number), want[number]);
        }
    }

    static void heard(CaveEchoes cave, int... want) {
        due("told()", cave.told(), want.length);
        for (int number = 0; number < want.length && number < cave.told(); number++) {
            due("heardByBits(" + number + ")", cave.heardByBits(number), want[number]);
            due("heard(" + number + ")", cave.heard(number), want[number]);
        }
    }

    static void letter(CaveEchoes cave, String want) {
        StringBuilder bits = new StringBuilder();
        for (int bit = 0; bit < cave.letterBits(); bit++) {
            bits.append(cave.letterBit(bit) ? 1 : 0);
        }
        due("the bits of the letter", bits.toString(), want.replace(" ", ""));
    }

    static CaveEchoes sent(CaveEchoes cave) {
        cave.send();
        return cave;
    }

    static CaveEchoes with(CaveEchoes cave, Checks.Script script) {
        script.on(cave);
        return cave;
    }
}
