/** The boundary cases of the promises 1 to 14, call by call: what is refused, by what, and what is not. */
public final class CallsBoundaryTest {
    private static final int LEAST = Integer.MIN_VALUE;
    private static final int MOST = Integer.MAX_VALUE;
    private static final int[] FAR = {LEAST, LEAST + 1, -65536, -2, -1, 65536, MOST - 1, MOST};

    public static void main(String[] args) {
        newObject();
        function();
        notMadeAnyMore();
        code();
        recipeDigits();
        recipeTooLong();
        recipeGaps();
        recipeState();
        count();
        size();
        plain();
        made();
        character();
        run();
        told();
        toldOfFaults();
        said();
        argumentBeforeState();
        Due.end();
    }

    /** Two functions, two recipes and a run: small, but with something of everything. */
    private static FeatureDesugarer small() {
        FeatureDesugarer x = new FeatureDesugarer();
        Due.recipe(x, "a_b");
        Due.recipe(x, "c");
        Due.written(x, 1, "LOAD 0; JOIN 0; SAY; LOAD 0; RETURN");
        Due.written(x, 2, "LOAD 0; FUNCTION 0 1; APPLY 0; RETURN");
        return x;
    }

    private static FeatureDesugarer smallMade() {
        FeatureDesugarer x = small();
        x.lower();
        x.run(1, 42, 0, 0, true);
        return x;
    }

    /** Twelve functions with forty instructions each and eight recipes: no room for more. */
    private static FeatureDesugarer full() {
        FeatureDesugarer x = new FeatureDesugarer();
        for (int k = 0; k < 8; k++) {
            x.recipe(1);
        }
        for (int f = 0; f < 12; f++) {
            Due.written(x, 0, "GO 0 * 40");
        }
        return x;
    }

    private static void newObject() {
        Due.sentence("FeatureDesugarer(): No functions, no recipes");
        FeatureDesugarer x = new FeatureDesugarer();
        Due.answer("count(0)", x.count(0), 0);
        Due.answer("count(1)", x.count(1), 0);
        Due.answer("the first function", x.function(0), 0);
        Due.answer("the first recipe", x.recipe(1), 0);
        Due.answer("the first instruction", x.code(0, 0, 0, 0), 0);
    }

    private static void function() {
        Due.sentence("A function: its number. Illegal argument; illegal state: there are 12");
        FeatureDesugarer x = new FeatureDesugarer();
        for (int k = 0; k < 12; k++) {
            Due.refusedArgument("function(4)", x, () -> x.function(4));
            Due.refusedArgument("function(-1)", x, () -> x.function(-1));
            Due.answer("function", x.function(3 - k % 4), k);
            Due.answer("it has no instructions", x.size(k, 0), 0);
        }
        for (int parameters = 0; parameters <= 3; parameters++) {
            int asked = parameters;
            Due.refusedState("a 13th with " + parameters, x, () -> x.function(asked));
        }
        for (int parameters : FAR) {
            Due.refusedArgument("a 13th with " + parameters, x, () -> x.function(parameters));
        }
    }

    private static void notMadeAnyMore() {
        Due.sentence("The plainer code is not made any more, as behind code(), recipe()");
        for (int call = 0; call < 3; call++) {
            FeatureDesugarer x = smallMade();
            if (call == 0) {
                x.function(0);
            } else if (call == 1) {
                x.code(1, Due.NUMBER, 0, 0);
            } else {
                x.recipe(27);
            }
            Due.state("count(2)", () -> x.count(2));
            Due.state("count(3)", () -> x.count(3));
            Due.state("size(0, 1)", () -> x.size(0, 1));
            Due.state("size(0, 2)", () -> x.size(0, 2));
            Due.state("size(0, 3)", () -> x.size(0, 3));
            Due.state("plain(0, 0, 0)", () -> x.plain(0, 0, 0));
            Due.state("made(0, 0)", () -> x.made(0, 0));
            Due.state("character(0)", () -> x.character(0));
            Due.refusedState("run, first code", x, () -> x.run(0, 1, 1, 1, false));
            Due.refusedState("run, plainer code", x, () -> x.run(0, 1, 1, 1, true));
            Due.answer("size(0, 0)", x.size(0, 0), 5);
            Due.answer("lower()", x.lower(), call == 0 ? -1 : call == 1 ? 20 : 19);
            if (call != 0) {
                Due.answer("made again: count(2)", x.count(2), 1);
            }
        }
        FeatureDesugarer x = smallMade();
        Due.argument("function(4)", () -> x.function(4));
        Due.argument("code(0, 16, 0, 0)", () -> x.code(0, 16, 0, 0));
        Due.argument("recipe(0)", () -> x.recipe(0));
        x.check();
        Due.answer("refused calls and check() leave it made: count(2)", x.count(2), 1);
    }

    private static void code() {
        Due.sentence("An instruction behind a function's others: its place");
        FeatureDesugarer x = new FeatureDesugarer();
        Due.refusedArgument("no function: code(0, ..)", x, () -> x.code(0, 0, 0, 0));
        for (int f = 0; f < 12; f++) {
            x.function(0);
            int next = f + 1;
            Due.argument("code(" + next + ", ..)", () -> x.code(next, 0, 0, 0));
        }
        Due.argument("code(-1, ..)", () -> x.code(-1, 0, 0, 0));
        for (int k = 0; k < 40; k++) {
            // Numbers of any size are taken: check() asks for them.
            Due.answer("code(11, ..)", x.code(11, k % 16, k % 2 == 0 ? LEAST : MOST, k % 2 == 0 ? MOST : LEAST), k);
        }
        Due.answer("another function's first", x.code(0, 15, 99, 99), 0);
        Due.sentence("Illegal argument: the word is not 0 .. 15; illegal state: it has 40");
        for (int word : new int[] {LEAST, -1, 16, 17, 20, 26, MOST}) {
            Due.refusedArgument("word " + word, x, () -> x.code(0, word, 0, 0));
            Due.refusedArgument("a 41st, word " + word, x, () -> x.code(11, word, 0, 0));
        }
        for (int word = 0; word <= 15; word++) {
            int asked = word;
            Due.refusedState("a 41st, word " + word, x, () -> x.code(11, asked, 0, 0));
            Due.answer("word " + word, x.code(0, word, 0, 0), word + 1);
        }
        for (int f : FAR) {
            Due.refusedArgument("code(" + f + ", ..)", x, () -> x.code(f, 0, 0, 0));
        }
    }

    private static void recipeDigits() {
        Due.sentence("1 .. 26 for a .. z, 27 for a hole");
        for (int digit = 1; digit <= 26; digit++) {
            FeatureDesugarer x = new FeatureDesugarer();
            x.recipe(digit);
            x.recipe(27 + 32L * digit);
            x.lower();
            Due.answer("count(3)", x.count(3), 2);
            Due.answer("character(0)", x.character(0), digit - 1);
            Due.answer("character(1)", x.character(1), digit - 1);
        }
        Due.sentence("Illegal argument: it has none of these digits, .. or 28 .. 31");
        FeatureDesugarer x = new FeatureDesugarer();
        Due.refusedArgument("recipe(0)", x, () -> x.recipe(0));
        for (int place = 0; place < 12; place++) {
            for (long digit = 28; digit <= 31; digit++) {
                long below = place == 0 ? 0 : Due.characters("aaaaaaaaaaaa".substring(0, place));
                long alone = below + (digit << 5 * place);
                Due.refusedArgument("recipe(" + alone + ")", x, () -> x.recipe(alone));
                if (place < 11) {
                    long inside = alone + (1L << 5 * (place + 1));
                    Due.refusedArgument("recipe(" + inside + ")", x, () -> x.recipe(inside));
                }
            }
        }
        Due.sentence("the first one the lowest");
        Due.recipe(x, "abc_z");
        x.lower();
        int[] table = {0, 1, 2, 25};
        for (int k = 0; k < table.length; k++) {
            Due.answer("character(" + k + ")", x.character(k), table[k]);
        }
    }

    private static void recipeTooLong() {
        Due.sentence("Illegal argument: .. more than 12 of them (or is below 0)");
        FeatureDesugarer x = new FeatureDesugarer();
        long twelve = Due.characters("abcdefghijkl");
        long holes = Due.characters("____________");
        Due.answer("twelve letters", x.recipe(twelve), 0);
        Due.answer("twelve holes", x.recipe(holes), 1);
        for (long digit = 1; digit <= 15; digit++) {
            long thirteen = twelve + (digit << 60);
            long thirteenHoles = holes + (digit << 60);
            Due.refusedArgument("recipe(" + thirteen + ")", x, () -> x.recipe(thirteen));
            Due.refusedArgument("recipe(" + thirteenHoles + ")", x, () -> x.recipe(thirteenHoles));
        }
        for (long below : new long[] {-1, -2, -27, -32, Long.MIN_VALUE, Long.MIN_VALUE + 1, Long.MIN_VALUE + twelve,
            -twelve, LEAST}) {
            Due.refusedArgument("recipe(" + below + ")", x, () -> x.recipe(below));
        }
        Due.refusedArgument("the greatest", x, () -> x.recipe(Long.MAX_VALUE));
    }

    private static void recipeGaps() {
        Due.sentence("Illegal argument: .. or a 0 below one that is not");
        FeatureDesugarer x = new FeatureDesugarer();
        for (int upper = 1; upper < 12; upper++) {
            for (int gap = 0; gap < upper; gap++) {
                long characters = Due.characters("aaaaaaaaaaaa".substring(0, upper + 1)) - (1L << 5 * gap);
                Due.refusedArgument("recipe(" + characters + ")", x, () -> x.recipe(characters));
            }
        }
        Due.refusedArgument("a 13th digit alone", x, () -> x.recipe(1L << 60));
    }

    private static void recipeState() {
        Due.sentence("illegal state: there are 8");
        FeatureDesugarer x = new FeatureDesugarer();
        for (int k = 0; k < 8; k++) {
            Due.refusedArgument("recipe(0)", x, () -> x.recipe(0));
            Due.answer("recipe", x.recipe(27), k);
        }
        Due.refusedState("a ninth", x, () -> x.recipe(1));
        Due.refusedState("a ninth of twelve", x, () -> x.recipe(Due.characters("____________")));
        for (long wrong : new long[] {0, -1, 28, 32, 1L << 60, Long.MAX_VALUE, Long.MIN_VALUE}) {
            Due.refusedArgument("a ninth, " + wrong, x, () -> x.recipe(wrong));
        }
    }

    private static void count() {
        Due.sentence("How many there are: what = 0 functions, 1 recipes; of the plainer code, 2 classes, 3 characters of "
                + "the table. Illegal argument; illegal state: (2, 3) it is not made");
        FeatureDesugarer x = small();
        FeatureDesugarer y = smallMade();
        for (int what : new int[] {LEAST, -1, 4, 5, MOST}) {
            Due.refusedArgument("not made: count(" + what + ")", x, () -> x.count(what));
            Due.refusedArgument("made: count(" + what + ")", y, () -> y.count(what));
        }
        Due.answer("not made: count(0)", x.count(0), 2);
        Due.answer("not made: count(1)", x.count(1), 2);
        Due.refusedState("not made: count(2)", x, () -> x.count(2));
        Due.refusedState("not made: count(3)", x, () -> x.count(3));
        int[] want = {2, 2, 1, 3};
        for (int what = 0; what <= 3; what++) {
            Due.answer("made: count(" + what + ")", y.count(what), want[what]);
        }
        FeatureDesugarer z = full();
        Due.answer("full: count(0)", z.count(0), 12);
        Due.answer("full: count(1)", z.count(1), 8);
    }

    private static void size() {
        Due.sentence("Of a function: what = 0 how many instructions it has, 1 in the plainer code; 2 its GREATEST "
                + "HEIGHT, 3 in the plainer code. Illegal argument; illegal state: (1 to 3) that is not made");
        FeatureDesugarer x = small();
        FeatureDesugarer y = smallMade();
        for (int what : new int[] {LEAST, -1, 4, 5, MOST}) {
            Due.refusedArgument("not made: size(0, " + what + ")", x, () -> x.size(0, what));
            Due.refusedArgument("made: size(0, " + what + ")", y, () -> y.size(0, what));
        }
        for (int what = 0; what <= 3; what++) {
            int asked = what;
            for (int f : FAR) {
                Due.refusedArgument("not made: size(" + f + ", " + what + ")", x, () -> x.size(f, asked));
                Due.refusedArgument("made: size(" + f + ", " + what + ")", y, () -> y.size(f, asked));
            }
            Due.refusedArgument("not made: size(2, " + what + ")", x, () -> x.size(2, asked));
            Due.refusedArgument("made: size(2, " + what + ")", y, () -> y.size(2, asked));
            if (what > 0) {
                Due.refusedState("not made: size(0, " + what + ")", x, () -> x.size(0, asked));
                Due.refusedState("not made: size(1, " + what + ")", x, () -> x.size(1, asked));
            }
        }
        int[] first = {5, 10, 1, 2};
        int[] second = {4, 9, 1, 2};
        for (int what = 0; what <= 3; what++) {
            Due.answer("size(0, " + what + ")", y.size(0, what), first[what]);
            Due.answer("size(1, " + what + ")", y.size(1, what), second[what]);
        }
        Due.answer("not made: size(0, 0)", x.size(0, 0), 5);
        Due.answer("not made: size(1, 0)", x.size(1, 0), 4);
        FeatureDesugarer z = full();
        Due.answer("full: size(11, 0)", z.size(11, 0), 40);
        FeatureDesugarer empty = new FeatureDesugarer();
        empty.lower();
        Due.refusedArgument("no function: size(0, 0)", empty, () -> empty.size(0, 0));
        Due.refusedArgument("no function: size(0, 1)", empty, () -> empty.size(0, 1));
    }

    private static void plain() {
        Due.sentence("Instruction i of a function in the plainer code: what = 0 its word, 1 a, 2 b (0 if it has none). "
                + "Illegal argument; illegal state: that is not made");
        FeatureDesugarer x = small();
        FeatureDesugarer y = smallMade();
        for (int what : new int[] {LEAST, -1, 3, 4, MOST}) {
            Due.refusedArgument("not made: plain(0, 0, " + what + ")", x, () -> x.plain(0, 0, what));
            Due.refusedArgument("made: plain(0, 0, " + what + ")", y, () -> y.plain(0, 0, what));
        }
        for (int what = 0; what <= 2; what++) {
            int asked = what;
            for (int f : new int[] {LEAST, -1, 2, 3, 11, 12, MOST}) {
                Due.refusedArgument("not made: plain(" + f + ", 0, ..)", x, () -> x.plain(f, 0, asked));
                Due.refusedArgument("made: plain(" + f + ", 0, ..)", y, () -> y.plain(f, 0, asked));
            }
            for (int i : new int[] {LEAST, -1}) {
                Due.refusedArgument("not made: plain(0, " + i + ", ..)", x, () -> x.plain(0, i, asked));
                Due.refusedArgument("made: plain(0, " + i + ", ..)", y, () -> y.plain(0, i, asked));
            }
            for (int i : new int[] {10, 11, 40, MOST}) {
                Due.refusedArgument("made: plain(0, " + i + ", ..)", y, () -> y.plain(0, i, asked));
                Due.refusedArgument("made: plain(1, " + i + ", ..)", y, () -> y.plain(1, i, asked));
            }
            Due.refusedArgument("made: plain(1, 9, ..)", y, () -> y.plain(1, 9, asked));
            Due.refusedState("not made: plain(0, 0, " + what + ")", x, () -> x.plain(0, 0, asked));
            Due.refusedState("not made: plain(1, 3, " + what + ")", x, () -> x.plain(1, 3, asked));
        }
        Due.text("the first function", Due.plain(y, 0), "1 0 0; 2 8 0; 24 0 0; 25 0 1; 1 8 0; 26 0 0; 25 1 1; 12 0 0; "
                + "1 0 0; 11 0 0");
        Due.text("the second function", Due.plain(y, 1), "1 0 0; 20 0 0; 2 8 0; 2 9 0; 1 8 0; 1 9 0; 21 0 0; 22 0 0; "
                + "11 0 0");
    }

    private static void made() {
        Due.sentence("Of a class: what = 0 how many values it has, 1 the function that its method calls, 2 how many "
                + "instructions its method has. Illegal argument; illegal state: the plainer code is not made");
        FeatureDesugarer x = small();
        FeatureDesugarer y = smallMade();
        for (int what : new int[] {LEAST, -1, 3, 4, MOST}) {
            Due.refusedArgument("not made: made(0, " + what + ")", x, () -> x.made(0, what));
            Due.refusedArgument("made: made(0, " + what + ")", y, () -> y.made(0, what));
        }
        int[] want = {1, 0, 3};
        for (int what = 0; what <= 2; what++) {
            int asked = what;
            for (int cls : new int[] {LEAST, -1}) {
                Due.refusedArgument("not made: made(" + cls + ", " + what + ")", x, () -> x.made(cls, asked));
                Due.refusedArgument("made: made(" + cls + ", " + what + ")", y, () -> y.made(cls, asked));
            }
            for (int cls : new int[] {1, 2, 480, MOST}) {
                Due.refusedArgument("made: made(" + cls + ", " + what + ")", y, () -> y.made(cls, asked));
            }
            Due.refusedState("not made: made(0, " + what + ")", x, () -> x.made(0, asked));
            // A class that there may yet be: only that it is not made can be told.
            Due.refusedState("not made: made(9, " + what + ")", x, () -> x.made(9, asked));
            Due.answer("made(0, " + what + ")", y.made(0, what), want[what]);
        }
    }

    private static void character() {
        Due.sentence("A character of the table: 0 .. 25 for a .. z. Illegal argument: there is none such; illegal state: "
                + "the plainer code is not made");
        FeatureDesugarer x = small();
        FeatureDesugarer y = smallMade();
        for (int k : new int[] {LEAST, -1}) {
            Due.refusedArgument("not made: character(" + k + ")", x, () -> x.character(k));
            Due.refusedArgument("made: character(" + k + ")", y, () -> y.character(k));
        }
        for (int k : new int[] {3, 4, 96, MOST}) {
            Due.refusedArgument("made: character(" + k + ")", y, () -> y.character(k));
        }
        for (int k = 0; k <= 2; k++) {
            int asked = k;
            Due.refusedState("not made: character(" + k + ")", x, () -> x.character(asked));
            Due.answer("character(" + k + ")", y.character(k), k);
        }
    }

    private static void run() {
        Due.sentence("A run: 0, or its FAULT. Illegal argument: no such function; illegal state: the plainer code is not "
                + "made");
        FeatureDesugarer x = small();
        FeatureDesugarer y = smallMade();
        FeatureDesugarer empty = new FeatureDesugarer();
        for (int code = 0; code < 2; code++) {
            boolean plainer = code == 1;
            for (int f : new int[] {LEAST, -1, 2, 3, 11, 12, MOST}) {
                Due.refusedArgument("not made: run(" + f + ", ..)", x, () -> x.run(f, 0, 0, 0, plainer));
                Due.refusedArgument("made: run(" + f + ", ..)", y, () -> y.run(f, 0, 0, 0, plainer));
            }
            Due.refusedState("not made: run(0, ..)", x, () -> x.run(0, 0, 0, 0, plainer));
            Due.refusedState("not made: run(1, ..)", x, () -> x.run(1, LEAST, MOST, 0, plainer));
            Due.refusedArgument("no function", empty, () -> empty.run(0, 0, 0, 0, plainer));
            Due.answer("made: run(0, ..)", y.run(0, LEAST, MOST, MOST, plainer), 0);
            Due.answer("made: told(2)", y.told(2), LEAST);
        }
        empty.lower();
        Due.refusedArgument("no function, made", empty, () -> empty.run(0, 0, 0, 0, true));
        String before = Due.plain(y, 0) + Due.plain(y, 1) + y.count(2) + y.count(3);
        y.run(1, 1, 1, 1, true);
        Due.text("a run leaves the code", Due.plain(y, 0) + Due.plain(y, 1) + y.count(2) + y.count(3), before);
    }

    private static void toldAre(String what, FeatureDesugarer x, int characters, int steps, int number, int kind) {
        Due.answer(what + ": told(0)", x.told(0), characters);
        Due.answer(what + ": told(1)", x.told(1), steps);
        Due.answer(what + ": told(2)", x.told(2), number);
        Due.answer(what + ": told(3)", x.told(3), kind);
    }

    private static void told() {
        Due.sentence("All 0 without a run. Illegal argument");
        FeatureDesugarer x = new FeatureDesugarer();
        toldAre("a new object", x, 0, 0, 0, 0);
        FeatureDesugarer y = small();
        toldAre("behind function(), code(), recipe()", y, 0, 0, 0, 0);
        Due.refusedState("run", y, () -> y.run(0, 0, 0, 0, false));
        Due.refusedArgument("run", y, () -> y.run(9, 0, 0, 0, false));
        toldAre("behind a refused run", y, 0, 0, 0, 0);
        y.lower();
        toldAre("behind lower()", y, 0, 0, 0, 0);
        FeatureDesugarer z = smallMade();
        for (int what : new int[] {LEAST, -1, 4, 5, MOST}) {
            Due.refusedArgument("without a run: told(" + what + ")", x, () -> x.told(what));
            Due.refusedArgument("behind a run: told(" + what + ")", z, () -> z.told(what));
        }
        Due.sentence("Of the latest run");
        toldAre("a run", z, 4, 9, 42, 1);
        z.run(0, -1, 0, 0, false);
        toldAre("another run", z, 4, 5, -1, 1);
        z.check();
        z.lower();
        toldAre("behind check() and lower()", z, 4, 5, -1, 1);
        z.function(0);
        z.code(2, 0, 0, 0);
        z.recipe(1);
        toldAre("behind function(), code(), recipe()", z, 4, 5, -1, 1);
        Due.refusedState("run", z, () -> z.run(0, 7, 0, 0, true));
        toldAre("behind a refused run", z, 4, 5, -1, 1);
    }

    private static void toldOfFaults() {
        Due.sentence("2 what was returned if it is a number (else, or if it ended by a fault, 0), 3 its kind: 0 none, 1 "
                + "a number, 2 a text, 3 a function value, or an object");
        FeatureDesugarer x = new FeatureDesugarer();
        Due.recipe(x, "_");
        Due.written(x, 2, "LOAD 0; RETURN");
        Due.written(x, 2, "LOAD 0; JOIN 0; RETURN");
        Due.written(x, 2, "FUNCTION 0 0; RETURN");
        Due.written(x, 2, "LOAD 0; LOAD 1; FUNCTION 0 2; RETURN");
        Due.written(x, 2, "LOAD 0; SAY; LOAD 0; LOAD 0; APPLY 0; RETURN");
        x.lower();
        for (int value : new int[] {LEAST, -1, 0, 1, MOST}) {
            Due.run("the number " + value, x, Due.call(0, value, 0, 0), 0, 2, value, 1, "");
            Due.run("the text of " + value, x, Due.call(1, value, 0, 0), 0, 3, 0, 2, "");
            Due.run("a function value", x, Due.call(2, value, 0, 0), 0, 2, 0, 3, "");
            Due.run("a function value with " + value, x, Due.call(3, value, 0, 0), 0, 4, 0, 3, "");
            Due.run("a fault with " + value + " on the stack", x, Due.call(4, value, 0, 0), 1, 5, 0, 0, "" + value);
        }
    }

    private static void said() {
        Due.sentence("A character of the latest run's output, as its byte. Illegal argument: there is none such");
        FeatureDesugarer x = new FeatureDesugarer();
        for (int k : new int[] {LEAST, -1, 0, 1, 199, 200, MOST}) {
            Due.refusedArgument("without a run: said(" + k + ")", x, () -> x.said(k));
        }
        String[] recipes = {"abcdefghijkl", "mnopqrstuvwx", "yz"};
        for (String recipe : recipes) {
            Due.recipe(x, recipe);
        }
        Due.written(x, 1, "JOIN 0; SAY; JOIN 1; SAY; JOIN 2; SAY; LOAD 0; SAY; FUNCTION 0 0; SAY; NUMBER 1; RETURN");
        Due.written(x, 0, "NUMBER 1; RETURN");
        Due.written(x, 0, "NUMBER 1; SAY; NUMBER 1; APPLY 0; RETURN");
        x.lower();
        for (int code = 0; code < 2; code++) {
            boolean plainer = code == 1;
            String[] texts = {"-1234567890", "2147483647", "0"};
            for (String number : texts) {
                String want = "abcdefghijklmnopqrstuvwxyz" + number + "f";
                x.run(0, Integer.parseInt(number), 0, 0, plainer);
                for (int k = 0; k < want.length(); k++) {
                    Due.answer("said(" + k + ")", x.said(k), want.charAt(k));
                }
                for (int k : new int[] {LEAST, -1, want.length(), want.length() + 1, 199, 200, MOST}) {
                    Due.refusedArgument("said(" + k + ")", x, () -> x.said(k));
                }
            }
            x.run(2, 0, 0, 0, plainer);
            Due.answer("what was said in front of a fault: said(0)", x.said(0), '1');
            Due.refusedArgument("what an earlier run said: said(1)", x, () -> x.said(1));
            x.run(1, 0, 0, 0, plainer);
            Due.refusedArgument("an empty output: said(0)", x, () -> x.said(0));
        }
    }

    private static void argumentBeforeState() {
        Due.sentence("Of several exceptions the one named first is thrown; a call that throws changes nothing");
        FeatureDesugarer x = full();
        Due.refusedArgument("function(4) of 12", x, () -> x.function(4));
        Due.refusedState("function(3) of 12", x, () -> x.function(3));
        Due.refusedArgument("code(12, ..) of full ones", x, () -> x.code(12, 0, 0, 0));
        Due.refusedArgument("word 16 of a full one", x, () -> x.code(11, 16, 0, 0));
        Due.refusedState("word 15 of a full one", x, () -> x.code(11, 15, 0, 0));
        Due.refusedArgument("recipe(28) of 8", x, () -> x.recipe(28));
        Due.refusedState("recipe(27) of 8", x, () -> x.recipe(27));
        Due.refusedArgument("count(4), not made", x, () -> x.count(4));
        Due.refusedArgument("size(12, 1), not made", x, () -> x.size(12, 1));
        Due.refusedArgument("plain(12, 0, 0), not made", x, () -> x.plain(12, 0, 0));
        Due.refusedArgument("plain(0, 0, 3), not made", x, () -> x.plain(0, 0, 3));
        Due.refusedArgument("made(0, 3), not made", x, () -> x.made(0, 3));
        Due.refusedArgument("character(-1), not made", x, () -> x.character(-1));
        Due.refusedArgument("run(12, ..), not made", x, () -> x.run(12, 0, 0, 0, true));
        Due.refusedState("run(11, ..), not made", x, () -> x.run(11, 0, 0, 0, true));
    }
}
