/** Edges of the text: its terms, and promises 53 to 56. */
final class TextEdges extends Edge {
    private static final int NONE = CaveEchoes.NONE;

    private TextEdges() {
    }

    static void tell() {
        items();
        signsAndSpeeds();
        weightsAndLeftOvers();
        leadingZeros();
        append();
        clearText();
        firstError();
        doWorks();
        doWorksStops();
        doWorksRefuses();
    }

    private static CaveEchoes text(String text) {
        return with(new CaveEchoes(), c -> Checks.text(c, text));
    }

    private static void error(String text, int want) {
        CaveEchoes cave = text(text);
        due("firstError() of " + text, cave.firstError(), want);
        due("the length of " + text + ", which stays", cave.clearText(), text.length());
    }

    private static void works(String... texts) {
        for (String text : texts) {
            error(text, NONE);
        }
    }

    private static CaveEchoes done(CaveEchoes cave, String text, int works) {
        Checks.text(cave, text);
        due("doWorks() of " + text, cave.doWorks(), works);
        return cave;
    }

    /** 80 characters, and something of everything. */
    private static void longest(CaveEchoes cave) {
        Caves.rich(cave);
        cave.clearText();
        Checks.text(cave, "s;".repeat(39) + "+1");
    }

    private static void items() {
        holds(TERMS, "There is a text of at most 80 characters, empty at first.", () -> {
            due("clearText(), new", new CaveEchoes().clearText(), 0);
            due("firstError(), new", new CaveEchoes().firstError(), 0);
            CaveEchoes cave = text("s;".repeat(39) + "+");
            due("append() of the last", cave.append('1'), 80);
            due("append() of one more throws", Checks.thrownBy(cave, c -> c.append('2')), STATE);
            due("firstError()", cave.firstError(), NONE);
        });
        String sentence = "Works are written as one or more items separated by \";\":";
        holds(TERMS, sentence, () -> {
            works("s", "x", "s;s", "s;+1;x;d1");
            error("", 0);
            error(";", 0);
            error("s;", 2);
            error("s;;s", 2);
            error(";s", 0);
            error("ss", 1);
            error("s,s", 1);
            error("+1-1", 2);
        });
        holds(TERMS, "\"k\" and a kind from 0 to 4 (it is allowed, or not any more)", () -> {
            works("k0", "k4");
            error("k", 1);
            error("k5", 1);
            error("k9", 1);
            error("k10", 2);
            error("k-1", 1);
            due("allowed() without SILENCE", done(new CaveEchoes(), "k0", 1).allowed(), 30);
            due("allowed() without WEIGHED", done(new CaveEchoes(), "k4", 1).allowed(), 15);
            due("allowed() with it again", done(new CaveEchoes(), "k4;k4", 2).allowed(), 31);
        });
        holds(TERMS, "\"s\" (the sound is sent)", () -> {
            works("s");
            error("S", 0);
            error("s1", 1);
            CaveEchoes cave = done(Caves.of(5, 6), "s", 1);
            heard(cave, 5, 6);
            due("sent()", cave.sent(), 1);
        });
        holds(TERMS, "or \"x\" (the sound is emptied).", () -> {
            works("x");
            error("X", 0);
            error("x1", 1);
            CaveEchoes cave = done(Checks.make(c -> Caves.count(c, 48)), "x", 1);
            samples(cave);
            samples(done(new CaveEchoes(), "x", 1));
            CaveEchoes rich = Checks.make(Caves::rich);
            rich.clearText();
            done(rich, "x", 1);
            due("delay() stays", rich.delay(), 2);
            due("told() stays", rich.told(), 10);
        });
    }

    private static void signsAndSpeeds() {
        holds(TERMS, "\"+\" or \"-\" and a number from 0 to 99 (a sample, that number or 0 less it, is added)", () -> {
            works("+0", "+9", "+10", "+99", "-0", "-9", "-10", "-99");
            error("+", 1);
            error("+100", 3);
            error("-100", 3);
            error("+990", 3);
            error("+-1", 1);
            error("--1", 1);
            error("+a", 1);
            error("1", 0);
            samples(done(new CaveEchoes(), "+0;-0;+99;-99;+1;-1", 6), 0, 0, 99, -99, 1, -1);
        });
        holds(TERMS, "\"d\" and a delay from 1 to 12", () -> {
            works("d1", "d2", "d9", "d10", "d11", "d12");
            error("d", 1);
            error("d0", 1);
            error("d13", 2);
            error("d20", 2);
            error("d99", 2);
            error("d120", 3);
            error("d-1", 1);
            due("delay() of 1", done(new CaveEchoes(), "d1", 1).delay(), 1);
            due("delay() of 12", done(new CaveEchoes(), "d12", 1).delay(), 12);
        });
        holds(TERMS, "\"v\" and a speed from 0 to 3", () -> {
            works("v0", "v1", "v2", "v3");
            error("v", 1);
            error("v4", 1);
            error("v9", 1);
            error("v10", 2);
            error("v-1", 1);
            due("speed() of 0", done(new CaveEchoes(), "v0", 1).speed(), 0);
            due("speed() of 3", done(new CaveEchoes(), "v3", 1).speed(), 3);
        });
    }

    private static void weightsAndLeftOvers() {
        String weight = "\"w\", a digit from 1 to 4, \":\", and, with a \"-\" ahead of it or not, a number from 0 to 64 (a first weight)";
        holds(TERMS, weight, () -> {
            works("w1:0", "w4:0");
            error("w", 1);
            error("w0", 1);
            error("w5", 1);
            error("w1", 2);
            error("w11", 2);
            error("w1;", 2);
            due("firstWeight(1)", done(new CaveEchoes(), "w1:5", 1).firstWeight(1), 5);
            due("firstWeight(4)", done(new CaveEchoes(), "w4:5", 1).firstWeight(4), 5);
        });
        holds(TERMS, weight, () -> {
            works("w1:64", "w1:-64", "w1:9", "w1:-0", "w1:59", "w1:60");
            error("w1:", 3);
            error("w1:-", 4);
            error("w1:65", 4);
            error("w1:-65", 5);
            error("w1:70", 4);
            error("w1:640", 5);
            error("w1:+1", 3);
            error("w1:--1", 4);
            due("firstWeight(2), the greatest", done(new CaveEchoes(), "w2:64", 1).firstWeight(2), 64);
            due("firstWeight(2), the least", done(new CaveEchoes(), "w2:-64", 1).firstWeight(2), -64);
            due("firstWeight(1) of -0", done(new CaveEchoes(), "w1:-0", 1).firstWeight(1), 0);
        });
        String left = "\"t\", a number from 0 to 47, \":\", and, with a \"-\" ahead of it or not, a number from 0 to 198 (a left-over of the letter)";
        holds(TERMS, left, () -> {
            works("t0:0", "t9:0", "t10:0", "t39:0", "t47:0");
            error("t", 1);
            error("t48", 2);
            error("t50", 2);
            error("t470", 3);
            error("t-1", 1);
            error("t4", 2);
            error("t47", 3);
            error("t4;", 2);
            CaveEchoes cave = done(sent(Caves.counting(48)), "t0:100;t47:100", 2);
            due("letterLeft(0)", cave.letterLeft(0), 100);
            due("letterLeft(47)", cave.letterLeft(47), 100);
        });
        holds(TERMS, left, () -> {
            works("t0:198", "t0:-198", "t0:99", "t0:-0", "t0:20", "t0:100", "t0:189");
            error("t0:", 3);
            error("t0:-", 4);
            error("t0:199", 5);
            error("t0:-199", 6);
            error("t0:200", 5);
            error("t0:1980", 6);
            error("t0:+1", 3);
            error("t0:--1", 4);
            CaveEchoes cave = done(sent(Caves.of(1, 2, 3)), "t0:198;t1:-198;t2:-0", 3);
            due("letterLeft(0), the greatest", cave.letterLeft(0), 198);
            due("letterLeft(1), the least", cave.letterLeft(1), -198);
            due("letterLeft(2) of -0", cave.letterLeft(2), 0);
        });
    }

    private static void leadingZeros() {
        holds(TERMS, "Numbers have no leading zeros.", () -> {
            works("+0", "v0", "k0", "w1:0", "t0:0", "+10", "d10");
            String[] texts = {"+00", "+01", "-01", "d01", "d00", "v00", "v01", "k00", "k01", "w01", "w1:00", "w1:01",
                "w1:-01", "t00", "t01:1", "t0:00", "t0:01", "t0:-01", "t0:-00"};
            int[] at = {2, 2, 2, 1, 1, 2, 2, 2, 2, 1, 4, 4, 5, 2, 2, 4, 4, 5, 5};
            for (int i = 0; i < texts.length; i++) {
                error(texts[i], at[i]);
            }
        });
    }

    private static void append() {
        holds(53, "Appends a character to the text.", () -> {
            CaveEchoes cave = text("+1");
            cave.append('2');
            samples(done(cave, "", 1), 12);
        });
        holds(53, "`code`: the code of the character, 33 to 126", () -> {
            due("append(33)", new CaveEchoes().append(33), 1);
            due("append(126)", new CaveEchoes().append(126), 1);
        });
        holds(53, "Returns the length of the text then.", () -> {
            CaveEchoes cave = new CaveEchoes();
            for (int length = 1; length <= 80; length++) {
                due("append('~')", cave.append('~'), length);
            }
            cave.clearText();
            due("append() to what was cleared", cave.append('~'), 1);
        });
        holds(53, "Throws `IllegalArgumentException` if code is out of range", () -> {
            for (int wrong : beyond(33, 126)) {
                refuses(ARGUMENT, Caves::rich, "append(" + wrong + ")", c -> c.append(wrong));
            }
            // a code that is alike in its lowest 16 bits
            refuses(ARGUMENT, Caves::rich, "append('s' and more)", c -> c.append((1 << 16) + 's'));
        });
        holds(53, "Throws `IllegalStateException` if the text has 80 characters", () -> {
            due("append('1') to 79", text("s;".repeat(39) + "+").append('1'), 80);
            refuses(STATE, TextEdges::longest, "append('1') to 80", c -> c.append('1'));
            refuses(STATE, TextEdges::longest, "append('~') to 80", c -> c.append('~'));
        });
        holds(53, FIRST_OF_SEVERAL, () -> {
            refuses(ARGUMENT, TextEdges::longest, "append(32) to 80", c -> c.append(32));
            refuses(ARGUMENT, TextEdges::longest, "append(127) to 80", c -> c.append(127));
        });
    }

    private static void clearText() {
        holds(54, "Empties the text.", () -> {
            CaveEchoes cave = Checks.make(TextEdges::longest);
            cave.clearText();
            due("firstError()", cave.firstError(), 0);
            due("append()", cave.append('s'), 1);
            due("firstError() of what came then", cave.firstError(), NONE);
        });
        holds(54, "Returns the length that it had.", () -> {
            due("clearText(), empty", new CaveEchoes().clearText(), 0);
            due("clearText(), one", text("~").clearText(), 1);
            due("clearText(), full", Checks.make(TextEdges::longest).clearText(), 80);
            CaveEchoes cave = text("s");
            cave.clearText();
            due("clearText() again", cave.clearText(), 0);
        });
    }

    private static void firstError() {
        holds(55, "Finds the first error of the text.", () -> {
            error("s;a;b", 2);
            error("+1;+100;d0", 6);
        });
        holds(55, "Returns the index of the first character that is not allowed at its place (no works begin with the characters up to and including it)", () -> {
            error("a", 0);
            error("!", 0);
            error("~", 0);
            // a digit too many, and not the digits ahead of it
            error("d13", 2);
            error("t48:0", 2);
            error("s;".repeat(39) + "+a", 79);
            error("s;".repeat(39) + "s+", 79);
            error("s;".repeat(39) + "sa", 79);
        });
        holds(55, "no works begin with the characters up to and including it", TextEdges::everyCharacter);
        holds(55, "the length of the text if there is no such character, but the text ends too early (this holds for the empty text)", () -> {
            String[] texts = {"", "+", "-", "d", "v", "k", "w", "w1", "w1:", "w1:-", "t", "t0", "t47", "t0:", "t0:-", "s;"};
            for (String text : texts) {
                error(text, text.length());
            }
            error("s;".repeat(39) + "+", 79);
            error("s;".repeat(39) + "s;", 80);
            error("s;".repeat(39) + "t4", 80);
        });
        holds(55, "NONE if the text tells works.", () -> {
            works("s", "+0", "t47:-198;w4:-64;k4;v3;d12;-99;x;s", "s;".repeat(39) + "s", "s;".repeat(39) + "+1");
            due("firstError() of works that could not be done", with(new CaveEchoes(), c -> Checks.text(c, "t0:1")).firstError(), NONE);
        });
    }

    /** Beginnings of works, each with the characters that may come next. */
    private static final String[][] NEXT = {{"", "+-dvkwstx"}, {"s;", "+-dvkwstx"}, {"+", "0123456789"},
        {"-", "0123456789"}, {"+0", ";"}, {"-0", ";"}, {"+1", "0123456789;"}, {"-9", "0123456789;"}, {"+99", ";"},
        {"-10", ";"}, {"d", "123456789"}, {"d1", "012;"}, {"d2", ";"}, {"d9", ";"}, {"d10", ";"}, {"d12", ";"},
        {"v", "0123"}, {"v0", ";"}, {"v3", ";"}, {"k", "01234"}, {"k0", ";"}, {"k4", ";"}, {"w", "1234"}, {"w1", ":"},
        {"w4", ":"}, {"w1:", "-0123456789"}, {"w1:-", "0123456789"}, {"w1:0", ";"}, {"w1:-0", ";"},
        {"w1:5", "0123456789;"}, {"w1:6", "01234;"}, {"w1:-6", "01234;"}, {"w1:7", ";"}, {"w1:64", ";"}, {"w1:10", ";"},
        {"s", ";"}, {"x", ";"}, {"t", "0123456789"}, {"t0", ":"}, {"t1", "0123456789:"}, {"t3", "0123456789:"},
        {"t4", "01234567:"}, {"t5", ":"}, {"t9", ":"}, {"t10", ":"}, {"t47", ":"}, {"t0:", "-0123456789"},
        {"t0:-", "0123456789"}, {"t0:0", ";"}, {"t0:-0", ";"}, {"t0:1", "0123456789;"}, {"t0:2", "0123456789;"},
        {"t0:10", "0123456789;"}, {"t0:18", "0123456789;"}, {"t0:19", "012345678;"}, {"t0:-19", "012345678;"},
        {"t0:20", ";"}, {"t0:99", ";"}, {"t0:100", ";"}, {"t0:198", ";"}};

    private static void everyCharacter() {
        for (String[] next : NEXT) {
            for (int code = 33; code <= 126; code++) {
                String longer = next[0] + (char) code;
                boolean refused = text(longer).firstError() == next[0].length();
                due(longer + " is refused", refused, next[1].indexOf(code) < 0);
            }
        }
    }

    private static void doWorks() {
        holds(56, "Does the works of the text, one after the other", () -> {
            CaveEchoes cave = done(new CaveEchoes(), "+1;s;x;+2;+3;t0:9;d3", 7);
            samples(cave, 2, 3);
            heard(cave, 9);
            due("delay()", cave.delay(), 3);
        });
        holds(56, "the text becomes empty.", () -> {
            due("clearText(), all done", done(new CaveEchoes(), "x;x", 2).clearText(), 0);
            due("clearText(), nothing done", done(new CaveEchoes(), "s;x", 0).clearText(), 0);
            due("clearText() of 80", done(Checks.make(TextEdges::longest), "", 40).clearText(), 0);
        });
        holds(56, "Undoable, as one call, also if nothing is done.", () -> {
            undoes(Caves::rich, "doWorks()", CaveEchoes::doWorks);
            undoes(c -> Checks.text(c, "+1;+2;s;d3;v3;k1;w1:1;t0:5;x"), "doWorks() of nine", CaveEchoes::doWorks);
            undoes(c -> Checks.text(c, "s;+1"), "doWorks() of none", CaveEchoes::doWorks);
            CaveEchoes cave = done(Caves.of(5), "s;s;s;+1;+2", 5);
            due("undo()", cave.undo(), 1);
            samples(cave, 5);
            due("clearText(), undone", cave.clearText(), 0);
        });
        holds(56, "Returns the number of works that are done.", () -> {
            done(new CaveEchoes(), "s", 0);
            done(new CaveEchoes(), "+1", 1);
            done(Caves.of(1), "s;".repeat(39) + "+1", 40);
        });
    }

    private static void stops(Checks.Script built, String text, int works) {
        CaveEchoes cave = Checks.make(built);
        done(cave, text + ";v3;+7", works);
        due("speed(), as what comes behind is not done", cave.speed(), 1);
        CaveEchoes same = Checks.make(built);
        if (works == 0) {
            due("digest() stays", cave.digest(), same.digest());
        }
    }

    private static void doWorksStops() {
        String sentence = "up to the first one for which add(), turnKind(), send() or tamper() would throw an exception";
        holds(56, sentence, () -> {
            stops(c -> Caves.count(c, 48), "+1", 0);
            stops(c -> Caves.count(c, 48), "-1", 0);
            stops(c -> Caves.count(c, 47), "+1;+1", 1);
            done(Caves.counting(47), "+1;x;+1", 3);
        });
        holds(56, sentence, () -> {
            stops(c -> Caves.allowOnly(c, 4), "k4", 0);
            stops(Caves::bare, "k0;k1;k2;k3;k4", 4);
            done(Caves.only(4), "k0;k4", 2);
        });
        holds(56, sentence, () -> {
            stops(Caves::bare, "s", 0);
            stops(c -> Caves.count(c, 1), "s;x;s", 2);
            done(new CaveEchoes(), "+0;s", 2);
        });
        holds(56, sentence, () -> {
            stops(Caves::bare, "t0:0", 0);
            stops(c -> sent(with(c, d -> Caves.count(d, 3))), "t3:0", 0);
            stops(c -> sent(with(c, d -> Caves.count(d, 47))), "t46:1;+1;t47:0", 2);
            done(sent(Caves.counting(3)), "x;t2:0", 2);
        });
    }

    private static void doWorksRefuses() {
        holds(56, "Throws `IllegalStateException` if the text does not tell works (then it stays)", () -> {
            String[] texts = {"", "+", "+1;", "d0", "+1;d13", "+1;a", "+1+", "s;".repeat(40), "~".repeat(80)};
            for (String text : texts) {
                refuses(STATE, c -> {
                    Caves.rich(c);
                    c.clearText();
                    Checks.text(c, text);
                }, "doWorks() of " + text, CaveEchoes::doWorks);
                CaveEchoes cave = text(text);
                due("doWorks() throws", Checks.thrownBy(cave, CaveEchoes::doWorks), STATE);
                due("clearText() of what stays", cave.clearText(), text.length());
            }
            CaveEchoes cave = text("+");
            due("doWorks() throws", Checks.thrownBy(cave, CaveEchoes::doWorks), STATE);
            samples(done(cave, "5", 1), 5);
        });
    }
}
