/** The boundary cases of the terms: values, functions, words, texts and recipes, sentence by sentence. */
public final class TermsBoundaryTest {
    private static final int LEAST = Integer.MIN_VALUE;
    private static final int MOST = Integer.MAX_VALUE;

    public static void main(String[] args) {
        calls512();
        numbersWrap();
        twelveFunctions();
        zeroToThreeParameters();
        atMostFortyInstructions();
        number();
        locals();
        stores();
        lessTakesUpperFromLower();
        twiceAndDrop();
        go();
        zero();
        call();
        returns();
        function();
        apply();
        join();
        lowestIsFirst();
        textOfANumber();
        textOfTextsAndFunctions();
        eightRecipes();
        twelveCharacters();
        holesInTheirOrder();
        Due.end();
    }

    /** A program of one function with two parameters, run with these, must return this number. */
    private static void number(String what, int x, int y, int want, String instructions) {
        FeatureDesugarer d = new FeatureDesugarer();
        Due.written(d, 2, instructions);
        d.lower();
        Due.run(what, d, Due.call(0, x, y, 77), 0, -1, want, 1, "");
    }

    private static void calls512() {
        Due.sentence("An object is used for at most 512 calls after it has been made");
        FeatureDesugarer x = new FeatureDesugarer();
        for (int k = 0; k < 8; k++) {
            Due.recipe(x, "abcdefghijk_");
        }
        for (int f = 0; f < 12; f++) {
            x.function(1);
        }
        for (int f = 0; f < 12; f++) {
            Due.more(x, f, "LOAD 0; JOIN " + f % 8 + "; SAY; FUNCTION 11 0 * 11; LOAD 0; RETURN; FUNCTION 11 1 * 24");
        }
        Due.answer("call 501, lower()", x.lower(), 12 * (1 + 5 + 1 + 11 + 2 + 24 * 6));
        Due.answer("call 502, count(2)", x.count(2), 12 * 35);
        Due.answer("call 503, run", x.run(11, 5, 0, 0, false), 0);
        Due.answer("call 504, told(0)", x.told(0), 12);
        Due.answer("call 505, said(11)", x.said(11), '5');
        Due.answer("call 506, run", x.run(11, LEAST, 0, 0, true), 0);
        Due.answer("call 507, told(0)", x.told(0), 22);
        Due.answer("call 508, told(2)", x.told(2), LEAST);
        Due.answer("call 509, check()", x.check(), -1);
        Due.answer("call 510, character(87)", x.character(87), 10);
        Due.state("call 511, recipe", () -> x.recipe(1));
        Due.answer("call 512, made(419, 2)", x.made(419, 2), 3);
    }

    private static void numbersWrap() {
        Due.sentence("VALUES are numbers (32 bits, wrapping)");
        int[] edges = {LEAST, LEAST + 1, -65536, -46341, -1, 0, 1, 46341, 65535, 65536, MOST - 1, MOST};
        for (int x : edges) {
            for (int y : edges) {
                number(x + " ADD " + y, x, y, x + y, "LOAD 0; LOAD 1; ADD; RETURN");
                number(x + " LESS " + y, x, y, x - y, "LOAD 0; LOAD 1; LESS; RETURN");
                number(x + " TIMES " + y, x, y, x * y, "LOAD 0; LOAD 1; TIMES; RETURN");
            }
        }
        number("most + 1", MOST, 1, LEAST, "LOAD 0; LOAD 1; ADD; RETURN");
        number("least - 1", LEAST, 1, MOST, "LOAD 0; LOAD 1; LESS; RETURN");
        number("65536 * 65536", 65536, 65536, 0, "LOAD 0; LOAD 1; TIMES; RETURN");
        number("what wraps to 0 is 0", 65536, 65536, 9,
                "LOAD 0; LOAD 1; TIMES; ZERO 6; NUMBER 8; RETURN; NUMBER 9; RETURN");
    }

    private static void twelveFunctions() {
        Due.sentence("FUNCTIONS are 0 .. 11 as they come");
        FeatureDesugarer x = new FeatureDesugarer();
        for (int k = 0; k < 12; k++) {
            Due.answer("function", Due.written(x, 0, "NUMBER " + (100 + k) + "; RETURN"), k);
        }
        Due.refusedState("a 13th", x, () -> x.function(0));
        Due.answer("lower()", x.lower(), 24);
        for (int k = 0; k < 12; k++) {
            Due.run("function " + k, x, Due.call(k, 0, 0, 0), 0, 2, 100 + k, 1, "");
        }
        Due.refusedState("a 13th behind lower()", x, () -> x.function(3));
        Due.argument("run(12, ..)", () -> x.run(12, 0, 0, 0, true));
    }

    private static void zeroToThreeParameters() {
        Due.sentence("each with PARAMETERS (0 .. 3)");
        FeatureDesugarer x = new FeatureDesugarer();
        for (int parameters : new int[] {LEAST, -1, 4, 5, MOST}) {
            Due.refusedArgument("function(" + parameters + ")", x, () -> x.function(parameters));
        }
        int[] sums = {0, 1, 21, 321};
        for (int parameters = 0; parameters <= 3; parameters++) {
            Due.written(x, parameters, "LOAD 0; LOAD 1; ADD; LOAD 2; ADD; RETURN");
        }
        x.lower();
        for (int parameters = 0; parameters <= 3; parameters++) {
            Due.run(parameters + " parameters", x, Due.call(parameters, 1, 20, 300), 0, 6, sums[parameters], 1, "");
        }
    }

    private static void atMostFortyInstructions() {
        Due.sentence("a row of at most 40 instructions");
        FeatureDesugarer x = new FeatureDesugarer();
        int full = Due.written(x, 0, "NUMBER 0; NUMBER 1; ADD");
        for (int k = 0; k < 18; k++) {
            Due.more(x, full, "NUMBER 1; ADD");
        }
        Due.answer("the 40th", x.code(full, Due.RETURN, 0, 0), 39);
        Due.refusedState("a 41st", x, () -> x.code(full, Due.RETURN, 0, 0));
        int jump = Due.written(x, 0, "GO 37; NUMBER 1 * 36; NUMBER 4; GO 39; RETURN");
        int least = Due.written(x, 0, "GO 0");
        Due.answer("lower()", x.lower(), 81);
        Due.run("forty in their row", x, Due.call(full, 0, 0, 0), 0, 40, 19, 1, "");
        Due.run("to the last one", x, Due.call(jump, 0, 0, 0), 0, 4, 4, 1, "");
        Due.run("one alone", x, Due.call(least, 0, 0, 0), 4, 400, 0, 0, "");
        Due.refusedState("a 41st behind lower()", x, () -> x.code(jump, Due.RETURN, 0, 0));
    }

    private static void number() {
        Due.sentence("0 NUMBER a: pushes a");
        for (int a : new int[] {LEAST, -1, 0, 1, 15, 16, 40, MOST}) {
            number("NUMBER " + a, 1, 2, a, "NUMBER " + a + "; RETURN");
        }
    }

    private static void locals() {
        Due.sentence("1 LOAD a: pushes local a (0 .. 7; at first parameters, then 0)");
        for (int parameters = 0; parameters <= 3; parameters++) {
            for (int local = 0; local <= 7; local++) {
                FeatureDesugarer x = new FeatureDesugarer();
                Due.written(x, parameters, "LOAD " + local + "; RETURN");
                x.lower();
                int want = local < parameters ? 11 * (local + 1) : 0;
                Due.run("local " + local + " of " + parameters, x, Due.call(0, 11, 22, 33), 0, 2, want, 1, "");
            }
        }
        for (int local : new int[] {LEAST, -1, 8, 9, MOST}) {
            FeatureDesugarer x = new FeatureDesugarer();
            Due.written(x, 0, "LOAD " + local + "; RETURN");
            Due.answer("LOAD " + local + ": check()", x.check(), 0);
        }
    }

    private static void stores() {
        Due.sentence("2 STORE a: pops into local a");
        for (int local = 0; local <= 7; local++) {
            FeatureDesugarer x = new FeatureDesugarer();
            Due.recipe(x, "_a_a_a_a_");
            Due.recipe(x, "___");
            Due.written(x, 3, "NUMBER 9; STORE " + local + "; LOAD 0; LOAD 1; LOAD 2; LOAD 3; LOAD 4; JOIN 0; SAY; "
                    + "LOAD 5; LOAD 6; LOAD 7; JOIN 1; SAY; LOAD " + local + "; RETURN");
            x.lower();
            int[] values = {1, 2, 3, 0, 0, 0, 0, 0};
            values[local] = 9;
            String said = values[0] + "a" + values[1] + "a" + values[2] + "a" + values[3] + "a" + values[4] + values[5]
                    + values[6] + values[7];
            Due.run("STORE " + local, x, Due.call(0, 1, 2, 3), 0, 16, 9, 1, said);
        }
        for (int local : new int[] {LEAST, -1, 8, 9, MOST}) {
            FeatureDesugarer x = new FeatureDesugarer();
            Due.written(x, 0, "NUMBER 1; STORE " + local + "; NUMBER 1; RETURN");
            Due.answer("STORE " + local + ": check()", x.check(), 1);
        }
    }

    private static void lessTakesUpperFromLower() {
        Due.sentence("4 LESS (the upper one from the lower one)");
        number("10 LESS 3", 10, 3, 7, "LOAD 0; LOAD 1; LESS; RETURN");
        number("3 LESS 10", 3, 10, -7, "LOAD 0; LOAD 1; LESS; RETURN");
        number("0 LESS least", 0, LEAST, LEAST, "LOAD 0; LOAD 1; LESS; RETURN");
    }

    private static void twiceAndDrop() {
        Due.sentence("6 TWICE: pushes the top again. 7 DROP: pops");
        number("TWICE of one", 6, 0, 36, "LOAD 0; TWICE; TIMES; RETURN");
        number("DROP of the only one", 6, 5, 5, "LOAD 0; DROP; LOAD 1; RETURN");
        number("DROP of the upper one", 6, 5, 6, "LOAD 0; LOAD 1; DROP; RETURN");
        number("TWICE of the upper one", 6, 5, -4, "LOAD 0; LOAD 1; TWICE; ADD; LESS; RETURN");
    }

    private static void go() {
        Due.sentence("8 GO a: to instruction a");
        number("to the next one", 6, 5, 6, "GO 1; LOAD 0; RETURN");
        number("to the last one", 6, 5, 6, "LOAD 0; GO 3; LOAD 1; RETURN");
        number("back to the first one", 0, 5, 5, "LOAD 0; ZERO 4; LOAD 1; RETURN; NUMBER 1; STORE 0; GO 0");
    }

    private static void zero() {
        Due.sentence("9 ZERO a: pops a number, goes to a if it is 0");
        for (int value : new int[] {LEAST, -1, 0, 1, 65536, MOST}) {
            number("ZERO of " + value, value, 0, value == 0 ? 20 : 10,
                    "LOAD 0; ZERO 4; NUMBER 10; RETURN; NUMBER 20; RETURN");
            number("ZERO of " + value + " to the next one", value, 0, 5, "NUMBER 5; LOAD 0; ZERO 3; RETURN");
        }
    }

    private static void call() {
        Due.sentence("10 CALL a: pops function a's parameters, pushes what it returns");
        String[] said = {"0a0a032150", "3a0a02150", "2a3a0150", "1a2a350"};
        for (int parameters = 0; parameters <= 3; parameters++) {
            FeatureDesugarer x = new FeatureDesugarer();
            Due.recipe(x, "_a_a_");
            Due.written(x, 0, "NUMBER 50; NUMBER 1; NUMBER 2; NUMBER 3; CALL 1; SAY * " + (5 - parameters)
                    + "; NUMBER 0; RETURN");
            Due.written(x, parameters, "LOAD 0; LOAD 1; LOAD 2; JOIN 0; RETURN");
            x.lower();
            Due.run("CALL with " + parameters, x, Due.call(0, 0, 0, 0), 0, -1, 0, 1, said[parameters]);
        }
    }

    private static void returns() {
        Due.sentence("11 RETURN: pops, that is returned");
        number("the only one", 6, 5, 6, "LOAD 0; RETURN");
        number("the top of twelve", 6, 5, 5, "LOAD 0 * 11; LOAD 1; RETURN");
        FeatureDesugarer x = new FeatureDesugarer();
        Due.recipe(x, "z");
        Due.written(x, 0, "JOIN 0; RETURN");
        Due.written(x, 0, "FUNCTION 0 0; RETURN");
        Due.written(x, 0, "NUMBER 8; CALL 0; SAY; CALL 1; SAY; RETURN");
        x.lower();
        Due.run("a text and a function value to a caller", x, Due.call(2, 0, 0, 0), 0, 10, 8, 1, "zf");
    }

    private static void function() {
        Due.sentence("13 FUNCTION a b: pops b values, pushes the function value of function a with these as its first "
                + "parameters");
        for (int parameters = 0; parameters <= 3; parameters++) {
            for (int b = 0; b <= parameters; b++) {
                FeatureDesugarer x = new FeatureDesugarer();
                Due.recipe(x, "_a_a_");
                Due.written(x, parameters, "LOAD 0; LOAD 1; LOAD 2; JOIN 0; RETURN");
                String own = b == 0 ? "" : b == 1 ? "NUMBER 1; " : b == 2 ? "NUMBER 1; NUMBER 2; "
                        : "NUMBER 1; NUMBER 2; NUMBER 3; ";
                int others = parameters - b;
                String rest = others == 0 ? "" : "NUMBER 7 * " + others + "; ";
                Due.written(x, 0, "NUMBER 40; " + own + "FUNCTION 0 " + b + "; " + rest + "APPLY " + others
                        + "; SAY; RETURN");
                x.lower();
                StringBuilder said = new StringBuilder();
                for (int k = 0; k < 3; k++) {
                    said.append(k > 0 ? "a" : "").append(k < b ? k + 1 : k < parameters ? 7 : 0);
                }
                Due.run(b + " of " + parameters, x, Due.call(1, 0, 0, 0), 0, -1, 40, 1, said.toString());
            }
            FeatureDesugarer x = new FeatureDesugarer();
            Due.written(x, parameters, "NUMBER 1; RETURN");
            Due.written(x, 0, "NUMBER 1 * 4; FUNCTION 0 " + (parameters + 1) + "; RETURN");
            Due.answer("one more than " + parameters + ": check()", x.check(), 64 + 4);
        }
    }

    private static void apply() {
        Due.sentence("14 APPLY a: pops a (0 .. 3) values, then a function value");
        for (int a : new int[] {LEAST, -1, 4, 5, MOST}) {
            FeatureDesugarer x = new FeatureDesugarer();
            Due.written(x, 0, "NUMBER 1 * 6; APPLY " + a + "; RETURN");
            Due.answer("APPLY " + a + ": check()", x.check(), 6);
        }
        for (int a = 0; a <= 3; a++) {
            FeatureDesugarer x = new FeatureDesugarer();
            Due.written(x, a, "LOAD 0; LOAD 1; ADD; LOAD 2; ADD; RETURN");
            Due.written(x, 0, "NUMBER 40; FUNCTION 0 0; " + (a == 0 ? "" : "NUMBER 5 * " + a + "; ") + "APPLY " + a
                    + "; ADD; RETURN");
            x.lower();
            Due.run("APPLY " + a, x, Due.call(1, 0, 0, 0), 0, -1, 40 + 5 * a, 1, "");
        }
        Due.sentence("pushes what its function returns for its own values and these");
        FeatureDesugarer x = new FeatureDesugarer();
        Due.recipe(x, "_a_a_");
        Due.written(x, 3, "LOAD 0; LOAD 1; LOAD 2; JOIN 0; RETURN");
        Due.written(x, 2, "LOAD 1; LOAD 0; NUMBER 3; APPLY 1; SAY; RETURN");
        Due.written(x, 0, "NUMBER 1; NUMBER 2; FUNCTION 0 2; NUMBER 9; CALL 1; RETURN");
        x.lower();
        Due.run("applied in another function", x, Due.call(2, 0, 0, 0), 0, -1, 9, 1, "1a2a3");
    }

    private static void join() {
        Due.sentence("15 JOIN a: by recipe a: pops as many values as it has HOLES, pushes a text");
        FeatureDesugarer x = new FeatureDesugarer();
        Due.recipe(x, "none");
        Due.recipe(x, "____________");
        Due.recipe(x, "_");
        Due.written(x, 0, "JOIN 0; SAY; NUMBER 1; RETURN");
        Due.written(x, 0, "NUMBER 1; NUMBER 2; NUMBER 3; NUMBER 4; NUMBER 5; NUMBER 6; NUMBER 7; NUMBER 8; NUMBER 9; "
                + "NUMBER 10; NUMBER 11; NUMBER 12; JOIN 1; SAY; NUMBER 2; RETURN");
        Due.written(x, 0, "NUMBER 41; NUMBER 42; JOIN 2; SAY; RETURN");
        x.lower();
        Due.run("no hole, nothing on the stack", x, Due.call(0, 0, 0, 0), 0, 4, 1, 1, "none");
        Due.run("twelve holes, all of the stack", x, Due.call(1, 0, 0, 0), 0, 16, 2, 1, "123456789101112");
        Due.run("one hole", x, Due.call(2, 0, 0, 0), 0, 5, 41, 1, "42");
    }

    private static void lowestIsFirst() {
        Due.sentence("Of values that are popped together the lowest is the first one");
        FeatureDesugarer x = new FeatureDesugarer();
        Due.recipe(x, "_a_a_");
        Due.written(x, 3, "LOAD 0; LOAD 1; LOAD 2; JOIN 0; SAY; NUMBER 0; RETURN");
        Due.written(x, 3, "LOAD 0; LOAD 1; LOAD 2; CALL 0; RETURN");
        Due.written(x, 3, "LOAD 0; LOAD 1; LOAD 2; FUNCTION 0 3; APPLY 0; RETURN");
        Due.written(x, 3, "FUNCTION 0 0; LOAD 0; LOAD 1; LOAD 2; APPLY 3; RETURN");
        Due.written(x, 3, "LOAD 0; LOAD 1; FUNCTION 0 2; LOAD 2; APPLY 1; RETURN");
        Due.written(x, 3, "LOAD 0; FUNCTION 0 1; LOAD 1; LOAD 2; APPLY 2; RETURN");
        x.lower();
        String[] ways = {"JOIN", "CALL", "FUNCTION 0 3", "APPLY 3", "FUNCTION 0 2, APPLY 1", "FUNCTION 0 1, APPLY 2"};
        for (int f = 0; f < ways.length; f++) {
            Due.run(ways[f], x, Due.call(f, 1, 2, 3), 0, -1, 0, 1, "1a2a3");
        }
    }

    private static void textOfANumber() {
        Due.sentence("The text of a number is its digits (with - if it is below 0)");
        FeatureDesugarer x = new FeatureDesugarer();
        Due.recipe(x, "a_b");
        Due.written(x, 1, "LOAD 0; SAY; LOAD 0; JOIN 0; SAY; LOAD 0; RETURN");
        x.lower();
        long[] edges = {0, 1, 9, 10, 11, 99, 100, 101, 999, 1000, 9999, 10000, 99999, 100000, 999999, 1000000, 9999999,
            10000000, 99999999, 100000000, 999999999, 1000000000, MOST};
        for (long edge : edges) {
            for (int value : new int[] {(int) edge, (int) -edge}) {
                Due.run("" + value, x, Due.call(0, value, 0, 0), 0, 7, value, 1, value + "a" + value + "b");
            }
        }
        Due.run("the least", x, Due.call(0, LEAST, 0, 0), 0, 7, LEAST, 1, "-2147483648a-2147483648b");
    }

    private static void textOfTextsAndFunctions() {
        Due.sentence("of a text itself, of a function value the letter f");
        FeatureDesugarer x = new FeatureDesugarer();
        Due.recipe(x, "q");
        Due.recipe(x, "_");
        Due.recipe(x, "__");
        Due.written(x, 2, "JOIN 0; SAY; JOIN 0; JOIN 1; JOIN 1; TWICE; JOIN 2; SAY; NUMBER 0; RETURN");
        Due.written(x, 0, "FUNCTION 0 0; SAY; NUMBER 12; NUMBER 34; FUNCTION 0 2; TWICE; JOIN 2; SAY; NUMBER 0; RETURN");
        x.lower();
        Due.run("a text", x, Due.call(0, 0, 0, 0), 0, 10, 0, 1, "qqq");
        Due.run("a function value, with values and without", x, Due.call(1, 0, 0, 0), 0, 10, 0, 1, "fff");
    }

    private static void eightRecipes() {
        Due.sentence("RECIPES are 0 .. 7");
        FeatureDesugarer x = new FeatureDesugarer();
        Due.written(x, 0, "JOIN 0; SAY; JOIN 1; SAY; JOIN 2; SAY; JOIN 3; SAY; JOIN 4; SAY; JOIN 5; SAY; JOIN 6; SAY; "
                + "JOIN 7; SAY; NUMBER 0; RETURN");
        for (int k = 0; k < 8; k++) {
            Due.answer("JOIN " + k + " without its recipe: check()", x.check(), 2 * k);
            Due.answer("recipe", x.recipe(k + 19), k);
        }
        Due.answer("check()", x.check(), -1);
        Due.refusedState("a ninth", x, () -> x.recipe(1));
        x.lower();
        Due.run("all eight", x, Due.call(0, 0, 0, 0), 0, 18, 0, 1, "stuvwxyz");
        Due.refusedState("a ninth behind lower()", x, () -> x.recipe(27));
    }

    private static void twelveCharacters() {
        Due.sentence("rows of at most 12 characters: letters a .. z, and _, a HOLE");
        String letters = "abcdefghijklmnopqrstuvwxyz";
        FeatureDesugarer x = new FeatureDesugarer();
        Due.recipe(x, letters.substring(0, 12));
        Due.recipe(x, letters.substring(12, 24));
        Due.recipe(x, letters.substring(24));
        Due.recipe(x, "a");
        Due.recipe(x, "_bcdefghijk_");
        Due.written(x, 2, "JOIN 0; SAY; JOIN 1; SAY; JOIN 2; SAY; JOIN 3; SAY; LOAD 0; LOAD 1; JOIN 4; SAY; LOAD 0; "
                + "RETURN");
        x.lower();
        Due.run("all letters", x, Due.call(0, 5, -6, 0), 0, 14, 5, 1, letters + "a5bcdefghijk-6");
        Due.refusedArgument("13 characters", x, () -> x.recipe(Due.characters("abcdefghijkl") + (1L << 60)));
    }

    private static void holesInTheirOrder() {
        Due.sentence("holes are filled in their order");
        FeatureDesugarer x = new FeatureDesugarer();
        String[] recipes = {"__", "_a_", "a__", "__a", "a_b_c", "_ab_", "ab_c_d"};
        String[] said = {"12", "1a2", "a12", "12a", "a1b2c", "1ab2", "ab1c2d"};
        for (String recipe : recipes) {
            Due.recipe(x, recipe);
        }
        for (int k = 0; k < recipes.length; k++) {
            Due.written(x, 2, "LOAD 0; LOAD 1; JOIN " + k + "; SAY; LOAD 0; RETURN");
        }
        x.lower();
        for (int k = 0; k < recipes.length; k++) {
            Due.run(recipes[k], x, Due.call(k, 1, 2, 0), 0, 6, 1, 1, said[k]);
        }
    }
}
