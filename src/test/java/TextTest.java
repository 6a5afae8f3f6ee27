/** Promises 53 to 56: the text, its first error, and its works. */
public final class TextTest {
    private static final Class<?> ARGUMENT = IllegalArgumentException.class;
    private static final Class<?> STATE = IllegalStateException.class;
    private static final int NONE = CaveEchoes.NONE;

    public static void main(String[] args) {
        promise53();
        promise54();
        promise55Works();
        promise55Errors();
        promise55TooEarly();
        promise55Longest();
        promise56();
        promise56EachWork();
        promise56Stops();
        promise56Refuses();
        Checks.end("TextTest");
    }

    private static CaveEchoes with(String text) {
        CaveEchoes cave = new CaveEchoes();
        Checks.text(cave, text);
        return cave;
    }

    private static void error(String text, int want) {
        CaveEchoes cave = with(text);
        Checks.due("firstError() of " + text, cave.firstError(), want);
        Checks.due("the text's length stays", cave.clearText(), text.length());
    }

    private static void full(CaveEchoes cave) {
        Caves.rich(cave);
        cave.clearText();
        Checks.text(cave, "+".repeat(80));
    }

    private static void promise53() {
        CaveEchoes cave = new CaveEchoes();
        Checks.due("append(33)", cave.append(33), 1);
        Checks.due("append(126)", cave.append(126), 2);
        for (int length = 3; length <= 80; length++) {
            Checks.due("append('x')", cave.append('x'), length);
        }
        for (int code : new int[] {32, 127, 0, -1, 10, Integer.MIN_VALUE, Integer.MAX_VALUE}) {
            Checks.refuses("append(" + code + ")", ARGUMENT, Caves::rich, c -> c.append(code));
            Checks.refuses("append(" + code + "), full", ARGUMENT, TextTest::full, c -> c.append(code));
        }
        Checks.refuses("append('1'), full", STATE, TextTest::full, c -> c.append('1'));
        CaveEchoes saved = Caves.of(5);
        saved.append('x');
        Checks.due("append() is not undone: undo()", saved.undo(), 0);
        Checks.due("the text stays", saved.clearText(), 1);
    }

    private static void promise54() {
        CaveEchoes cave = new CaveEchoes();
        Checks.due("clearText(), empty", cave.clearText(), 0);
        Checks.text(cave, "+12");
        Checks.due("clearText()", cave.clearText(), 3);
        Checks.due("clearText() again", cave.clearText(), 0);
        Checks.due("append()", cave.append('s'), 1);
        Checks.due("firstError()", cave.firstError(), NONE);
        Checks.due("states saved", Checks.depth(cave), 0);
    }

    private static void promise55Works() {
        String[] works = {"+0", "+9", "+10", "+99", "-0", "-5", "-99", "d1", "d9", "d10", "d12", "v0", "v3", "k0",
            "k4", "w1:0", "w4:64", "w2:-64", "w3:-0", "w1:9", "s", "t0:0", "t9:9", "t47:198", "t10:-198", "t5:-0",
            "t40:19", "t39:100", "x", "s;s", "x;+1;-2;d3;v0;k1;w1:-3;s;t1:5;x", "+1;+1;+1", "t0:189", "t0:99"};
        for (String text : works) {
            error(text, NONE);
        }
    }

    private static void promise55Errors() {
        String[] texts = {"a", ";", "0", ":", "S", "~", "!", "+-1", "+a", "+01", "+00", "+100", "+990", "-00", "--1",
            "-100", "d0", "d01", "d13", "d20", "d120", "d-1", "v4", "v01", "v30", "v-1", "k5", "k9", "k10", "k-0",
            "w0", "w5", "w1;", "w11", "w-1", "w1:a", "w1:65", "w1:-65", "w1:640", "w1:00", "w1:--1", "w1:-a",
            "w1:70", "w1:+1", "s1", "ss", "s ;".replace(" ", "!"), "t48", "t50", "t00", "t01:1", "t-1", "t1;", "t1:199",
            "t1:-199", "t1:200", "t1:1980", "t1:01", "t1:--", "t1:+", "t1:1:", "x0", "xx", "s;;s", "s;a", "s,s", ";s",
            "+1;d13;v9", "+1,", "+5:", "d5:1", "s;+1x", "w1:5:", "t470", "t4:", "v", "t0:-;"};
        int[] at = {0, 0, 0, 0, 0, 0, 0, 1, 1, 2, 2, 3, 3, 2, 1,
            3, 1, 1, 2, 2, 3, 1, 1, 2, 2, 1, 1, 1, 2, 1,
            1, 1, 2, 2, 1, 3, 4, 5, 5, 4, 4, 4,
            4, 3, 1, 1, 1, 2, 2, 2, 2, 1, 2, 5,
            6, 5, 6, 4, 4, 3, 4, 1, 1, 2, 2, 1, 0,
            5, 2, 2, 2, 4, 4, 3, 3, 1, 4};
        Checks.due("texts told", texts.length, at.length);
        for (int i = 0; i < texts.length; i++) {
            error(texts[i], at[i]);
        }
    }

    private static void promise55TooEarly() {
        String[] texts = {"", "+", "-", "d", "v", "k", "w", "w1", "w1:", "w1:-", "t", "t4", "t47", "t0:", "t0:-",
            "s;", "+1;", "s;t", "x;w4:-"};
        for (String text : texts) {
            error(text, text.length());
        }
    }

    private static void promise55Longest() {
        error("s;".repeat(40), 80);
        error("+1;".repeat(26) + "+9", NONE);
        error("+1;".repeat(26) + "+;", 79);
        error("s;".repeat(39) + "w1", 80);
        error("s;".repeat(39) + "+1", NONE);
        error("s;".repeat(38) + "t0:-", 80);
        // what was cleared is not read again
        CaveEchoes cave = with("+19");
        cave.clearText();
        Checks.text(cave, "+1");
        Checks.due("firstError()", cave.firstError(), NONE);
        Checks.due("doWorks()", cave.doWorks(), 1);
        Checks.due("sampleAt(0)", cave.sampleAt(0), 1);
        CaveEchoes shorter = with("s;s");
        shorter.clearText();
        Checks.text(shorter, "s");
        Checks.due("firstError() of what was cleared", shorter.firstError(), NONE);
    }

    private static void promise56() {
        CaveEchoes cave = Caves.of(7);
        Checks.text(cave, "+9;-4;s;t1:-3");
        Checks.due("doWorks()", cave.doWorks(), 4);
        Checks.due("samples()", cave.samples(), 3);
        Checks.due("sampleAt(1)", cave.sampleAt(1), 9);
        Checks.due("sampleAt(2)", cave.sampleAt(2), -4);
        Checks.due("letterLeft(1)", cave.letterLeft(1), -3);
        Checks.due("the text is empty", cave.clearText(), 0);
        Checks.due("undo()", cave.undo(), 1);
        Checks.due("samples() after undo()", cave.samples(), 1);
        Checks.due("told() after undo()", cave.told(), 0);
        Checks.due("sent() after undo()", cave.sent(), 0);
        Checks.due("the text stays empty", cave.clearText(), 0);
        Checks.undoes("doWorks()", Caves::rich, CaveEchoes::doWorks);
    }

    private static void promise56EachWork() {
        CaveEchoes cave = with("+99;-99;+0;-0;d12;v3;k0;k4;k4;w1:-64;w2:64;w3:-0;w4:7;s;s;t0:198;t2:-198");
        Checks.due("doWorks()", cave.doWorks(), 17);
        Checks.due("samples()", cave.samples(), 4);
        Checks.due("sampleAt(0)", cave.sampleAt(0), 99);
        Checks.due("sampleAt(1)", cave.sampleAt(1), -99);
        Checks.due("sampleAt(3)", cave.sampleAt(3), 0);
        Checks.due("delay()", cave.delay(), 12);
        Checks.due("speed()", cave.speed(), 3);
        Checks.due("allowed()", cave.allowed(), 30);
        Checks.due("firstWeight(1)", cave.firstWeight(1), -64);
        Checks.due("firstWeight(2)", cave.firstWeight(2), 64);
        Checks.due("firstWeight(3)", cave.firstWeight(3), 0);
        Checks.due("firstWeight(4)", cave.firstWeight(4), 7);
        Checks.due("sent()", cave.sent(), 2);
        Checks.due("letterLeft(0)", cave.letterLeft(0), 198);
        Checks.due("letterLeft(2)", cave.letterLeft(2), -198);
        Checks.text(cave, "x;+5");
        Checks.due("doWorks() again", cave.doWorks(), 2);
        Checks.due("samples()", cave.samples(), 1);
        Checks.due("delay() of the emptied", cave.delay(), 12);
        Checks.due("told() of the emptied", cave.told(), 4);
    }

    private static void stops(Checks.Script built, String text, int done) {
        CaveEchoes cave = Checks.make(built);
        long before = cave.digest();
        int samples = cave.samples();
        Checks.text(cave, text);
        Checks.due("doWorks() of " + text, cave.doWorks(), done);
        Checks.due("speed(), as what comes behind is not done", cave.speed(), 1);
        Checks.due("the text is empty", cave.clearText(), 0);
        cave.undo();
        Checks.due("digest() after undo()", cave.digest(), before);
        Checks.due("samples() after undo()", cave.samples(), samples);
    }

    private static void promise56Stops() {
        Checks.Script full = c -> {
            Caves.full(c);
            c.clearText();
        };
        Checks.Script lone = c -> Caves.allowOnly(c, CaveEchoes.SLOPE);
        stops(full, "+1;v2", 0);
        stops(full, "d2;-1;v2", 1);
        stops(lone, "k2;v2", 0);
        stops(lone, "k1;k2;k1;v2", 2);
        stops(Caves::bare, "s;v2", 0);
        stops(Caves::bare, "+1;x;s;v2", 2);
        stops(Caves::bare, "t0:1;v2", 0);
        stops(Caves::bare, "+1;s;t0:2;t1:2;v2", 3);
        CaveEchoes cave = with("s");
        Checks.due("doWorks(), nothing done", cave.doWorks(), 0);
        Checks.due("undo() of nothing", cave.undo(), 0);
        CaveEchoes brim = with("+1;".repeat(26) + "+9");
        Checks.due("doWorks() of 27", brim.doWorks(), 27);
        Checks.text(brim, "+1;".repeat(26) + "+9");
        Checks.due("doWorks() up to 48 samples", brim.doWorks(), 21);
        Checks.due("samples()", brim.samples(), 48);
        CaveEchoes longest = Caves.of(1);
        Checks.text(longest, "s;".repeat(39) + "+1");
        Checks.due("doWorks() of 40", longest.doWorks(), 40);
    }

    private static void promise56Refuses() {
        for (String text : new String[] {"", "+", "+1;", "d0", "+1;d13", "+1;a", "+1+", "w1"}) {
            Checks.refuses("doWorks() of " + text, STATE, c -> {
                Caves.rich(c);
                c.clearText();
                Checks.text(c, text);
            }, CaveEchoes::doWorks);
        }
    }
}
