/** The boundary cases of RUNS and FAULT, sentence by sentence. */
public final class RunsBoundaryTest {
    private static final int LEAST = Integer.MIN_VALUE;
    private static final int MOST = Integer.MAX_VALUE;

    public static void main(String[] args) {
        soManyOfTheseNumbers();
        steps();
        stepsOfCodeMadeAnew();
        wrongKinds();
        rightKinds();
        wrongValues();
        thirtyFunctions();
        depthEnds();
        methodsAreNone();
        fourHundredSteps();
        textsOf200();
        outputOf200();
        outputByRounds();
        textAndOutputApart();
        firstFaultEnds();
        runsAreFresh();
        manyValues();
        manyRuns();
        thirteenHigh();
        Due.end();
    }

    private static void soManyOfTheseNumbers() {
        Due.sentence("function f with so many of these numbers as it has parameters");
        FeatureDesugarer x = new FeatureDesugarer();
        Due.recipe(x, "_a_a_");
        for (int parameters = 0; parameters <= 3; parameters++) {
            Due.written(x, parameters, "LOAD 0; LOAD 1; LOAD 2; JOIN 0; SAY; LOAD 0; RETURN");
        }
        x.lower();
        String[] said = {"0a0a0", "-2147483648a0a0", "-2147483648a2147483647a0", "-2147483648a2147483647a-1"};
        for (int parameters = 0; parameters <= 3; parameters++) {
            Due.run(parameters + " parameters", x, Due.call(parameters, LEAST, MOST, -1), 0, 7,
                    parameters == 0 ? 0 : LEAST, 1, said[parameters]);
        }
    }

    private static void steps() {
        Due.sentence("A STEP is an instruction of the first code; of the plainer one, the first of each group (those of "
                + "methods are none)");
        FeatureDesugarer x = new FeatureDesugarer();
        Due.recipe(x, "a_b_");
        Due.written(x, 3, "LOAD 0; RETURN");
        Due.written(x, 3, "LOAD 0; LOAD 1; LOAD 2; FUNCTION 0 3; RETURN");
        Due.written(x, 3, "LOAD 0; LOAD 1; LOAD 2; FUNCTION 0 3; APPLY 0; RETURN");
        Due.written(x, 3, "LOAD 0; LOAD 1; JOIN 0; RETURN");
        Due.written(x, 3, "FUNCTION 0 0; LOAD 0; LOAD 1; LOAD 2; APPLY 3; RETURN");
        Due.written(x, 3, "LOAD 0; ZERO 3; GO 2; LOAD 0; RETURN");
        x.lower();
        Due.run("one returned", x, Due.call(0, 8, 0, 0), 0, 2, 8, 1, "");
        Due.run("NEW and its PUTs are one", x, Due.call(1, 8, 0, 0), 0, 5, 0, 3, "");
        Due.run("a method's are none", x, Due.call(2, 8, 0, 0), 0, 8, 8, 1, "");
        Due.run("a JOIN is one", x, Due.call(3, 8, 0, 0), 0, 4, 0, 2, "");
        Due.run("a method's LOADs are none", x, Due.call(4, 8, 0, 0), 0, 8, 8, 1, "");
        Due.run("what is gone over is none", x, Due.call(5, 0, 0, 0), 0, 4, 0, 1, "");
    }

    private static void stepsOfCodeMadeAnew() {
        Due.sentence("of the plainer one, the first of each group (those of methods are none)");
        FeatureDesugarer x = new FeatureDesugarer();
        Due.recipe(x, "a_b_");
        Due.written(x, 3, "LOAD 0; RETURN");
        Due.written(x, 3, "LOAD 0; LOAD 1; LOAD 2; FUNCTION 0 3; APPLY 0; LOAD 1; JOIN 0; SAY; LOAD 2; RETURN");
        x.lower();
        // Each instruction in front moves the groups to where others' instructions stood before.
        for (int turn = 0; turn < 38; turn++) {
            Due.more(x, 0, turn % 7 == 6 ? "FUNCTION 1 1" : turn % 5 == 4 ? "JOIN 0" : "LOAD 0");
            x.lower();
            Due.run("made again, " + (turn + 1) + " behind", x, Due.call(1, 1, 2, 3), 0, 12, 3, 1, "a1b2");
        }
    }

    /** A run of function 1, behind one with two parameters, must end so in both codes. */
    private static void ends(String instructions, int fault, int steps) {
        FeatureDesugarer x = new FeatureDesugarer();
        Due.recipe(x, "a");
        Due.written(x, 2, "LOAD 0; RETURN");
        Due.written(x, 0, instructions);
        x.lower();
        Due.run(instructions, x, Due.call(1, 0, 0, 0), fault, steps, 0, fault == 0 ? 1 : 0, "");
    }

    private static void wrongKinds() {
        Due.sentence("1 a value is of the wrong kind (ADD, LESS, TIMES, ZERO: no number; APPLY, INVOKE: no function "
                + "value, an object)");
        for (String word : new String[] {"ADD", "LESS", "TIMES"}) {
            for (String other : new String[] {"JOIN 0", "FUNCTION 0 0"}) {
                ends("NUMBER 1; " + other + "; " + word + "; RETURN", 1, 3);
                ends(other + "; NUMBER 1; " + word + "; RETURN", 1, 3);
                ends(other + "; " + other + "; " + word + "; RETURN", 1, 3);
            }
        }
        ends("JOIN 0; ZERO 2; NUMBER 0; RETURN", 1, 2);
        ends("FUNCTION 0 0; ZERO 2; NUMBER 0; RETURN", 1, 2);
        for (int a = 0; a <= 3; a++) {
            String values = a == 0 ? "" : "NUMBER 1 * " + a + "; ";
            ends("NUMBER 0; " + values + "APPLY " + a + "; RETURN", 1, a + 2);
            ends("JOIN 0; " + values + "APPLY " + a + "; RETURN", 1, a + 2);
        }
        // A function value on top does not help: what is below the values is applied.
        ends("NUMBER 0; FUNCTION 0 0; APPLY 1; RETURN", 1, 3);
    }

    private static void rightKinds() {
        Due.sentence("1 a value is of the wrong kind (ADD, LESS, TIMES, ZERO ..; APPLY, INVOKE ..)");
        // All other words take every kind.
        ends("JOIN 0; TWICE; STORE 0; DROP; LOAD 0; STORE 1; NUMBER 0; RETURN", 0, 8);
        ends("FUNCTION 0 0; TWICE; STORE 0; DROP; LOAD 0; STORE 1; NUMBER 0; RETURN", 0, 8);
        ends("JOIN 0; FUNCTION 0 0; CALL 0; DROP; NUMBER 0; RETURN", 0, 8);
        ends("JOIN 0; FUNCTION 0 0; FUNCTION 0 2; APPLY 0; DROP; NUMBER 0; RETURN", 0, 9);
        // A local behind the parameters is the number 0, not nothing.
        ends("LOAD 7; LOAD 3; ADD; ZERO 5; GO 4; NUMBER 0; RETURN", 0, 6);
        ends("LOAD 7; APPLY 0; RETURN", 1, 2);
    }

    private static void wrongValues() {
        Due.sentence("2 a function value gets other than the values that it still wants (methods: likewise)");
        for (int parameters = 0; parameters <= 3; parameters++) {
            for (int own = 0; own <= parameters; own++) {
                for (int a = 0; a <= 3; a++) {
                    FeatureDesugarer x = new FeatureDesugarer();
                    Due.written(x, parameters, "NUMBER 6; RETURN");
                    Due.written(x, 0, (own == 0 ? "" : "NUMBER 1 * " + own + "; ") + "FUNCTION 0 " + own + "; "
                            + (a == 0 ? "" : "NUMBER 1 * " + a + "; ") + "APPLY " + a + "; RETURN");
                    x.lower();
                    boolean fits = own + a == parameters;
                    Due.run(a + " with " + own + " of " + parameters, x, Due.call(1, 0, 0, 0), fits ? 0 : 2,
                            own + a + 2 + (fits ? 3 : 0), fits ? 6 : 0, fits ? 1 : 0, "");
                }
            }
        }
    }

    private static void thirtyFunctions() {
        Due.sentence("3 more than 30 functions are begun one in the other (methods are none)");
        FeatureDesugarer x = new FeatureDesugarer();
        Due.written(x, 1, "LOAD 0; ZERO 7; LOAD 0; NUMBER 1; LESS; CALL 0; RETURN; NUMBER 9; RETURN");
        Due.written(x, 1, "LOAD 0; ZERO 8; FUNCTION 1 0; LOAD 0; NUMBER 1; LESS; APPLY 1; RETURN; NUMBER 9; RETURN");
        Due.written(x, 1, "LOAD 0; ZERO 8; LOAD 0; NUMBER 1; LESS; FUNCTION 2 1; APPLY 0; RETURN; NUMBER 9; RETURN");
        Due.written(x, 0, "CALL 3; RETURN");
        Due.written(x, 0, "FUNCTION 4 0; APPLY 0; RETURN");
        x.lower();
        Due.run("one", x, Due.call(0, 0, 0, 0), 0, 4, 9, 1, "");
        Due.run("30 by CALL", x, Due.call(0, 29, 0, 0), 0, 29 * 7 + 4, 9, 1, "");
        Due.run("31 by CALL", x, Due.call(0, 30, 0, 0), 3, 30 * 6, 0, 0, "");
        for (int f = 1; f <= 2; f++) {
            Due.run("30 by APPLY", x, Due.call(f, 29, 0, 0), 0, 29 * 8 + 4, 9, 1, "");
            Due.run("31 by APPLY", x, Due.call(f, 30, 0, 0), 3, 30 * 7, 0, 0, "");
        }
        Due.run("without an end by CALL", x, Due.call(3, 0, 0, 0), 3, 30, 0, 0, "");
        Due.run("without an end by APPLY", x, Due.call(4, 0, 0, 0), 3, 60, 0, 0, "");
    }

    private static void depthEnds() {
        Due.sentence("begun one in the other");
        FeatureDesugarer x = new FeatureDesugarer();
        Due.written(x, 1, "LOAD 0; ZERO 7; LOAD 0; NUMBER 1; LESS; CALL 0; RETURN; NUMBER 9; RETURN");
        Due.written(x, 0, "NUMBER 25; CALL 0; DROP; NUMBER 25; CALL 0; RETURN");
        Due.written(x, 0, "NUMBER 1; NUMBER 28; CALL 0; ADD; NUMBER 20; CALL 0; ADD; RETURN");
        Due.written(x, 0, "NUMBER 1; CALL 0; NUMBER 29; CALL 0; RETURN");
        x.lower();
        Due.run("26 twice, one behind the other", x, Due.call(1, 0, 0, 0), 0, 6 + 2 * (25 * 7 + 4), 9, 1, "");
        Due.run("29 below the first, then 21", x, Due.call(2, 0, 0, 0), 0, 8 + 48 * 7 + 8, 19, 1, "");
        Due.run("2, then 30 below the first", x, Due.call(3, 0, 0, 0), 3, 4 + 11 + 29 * 6, 0, 0, "");
    }

    private static void methodsAreNone() {
        Due.sentence("(methods are none)");
        FeatureDesugarer x = new FeatureDesugarer();
        Due.written(x, 1, "LOAD 0; ZERO 13; LOAD 0; NUMBER 1; LESS; FUNCTION 1 1; APPLY 0; RETURN; GO 8 * 5; NUMBER 9; "
                + "RETURN");
        Due.written(x, 1, "LOAD 0; ZERO 7; LOAD 0; NUMBER 1; LESS; CALL 0; RETURN; NUMBER 8; RETURN");
        x.lower();
        // By turns an APPLY and a CALL: 30 functions, and in the plainer code 15 methods between them.
        Due.run("30 by turns", x, Due.call(0, 29, 0, 0), 0, 15 * 8 + 14 * 7 + 4, 8, 1, "");
        Due.run("31 by turns", x, Due.call(0, 30, 0, 0), 3, 15 * 7 + 15 * 6, 0, 0, "");
    }

    /** A function that takes 7 steps for each round and then 3, those behind them, and a RETURN; 56 rounds: 396. */
    private static void counted(String what, int rounds, String behind, int fault, int steps, int number, String said) {
        FeatureDesugarer x = new FeatureDesugarer();
        Due.recipe(x, "a");
        Due.written(x, 1, "LOAD 0; ZERO 7; LOAD 0; NUMBER 1; LESS; STORE 0; GO 0; NUMBER 3; " + behind + "; RETURN");
        Due.written(x, 0, "NUMBER 2; RETURN");
        x.lower();
        Due.run(what, x, Due.call(0, rounds, 0, 0), fault, steps, number, fault == 0 ? 1 : 0, said);
    }

    private static void fourHundredSteps() {
        Due.sentence("4 more than 400 steps");
        counted("399", 56, "TWICE; ADD; GO 11", 0, 399, 6, "");
        counted("400", 56, "TWICE; ADD; GO 11; GO 12", 0, 400, 6, "");
        counted("401", 56, "TWICE; ADD; GO 11; GO 12; GO 13", 4, 400, 0, "");
        counted("402", 56, "TWICE; ADD; GO 11; GO 12; GO 13; GO 14", 4, 400, 0, "");
        counted("without an end", 56, "GO 8", 4, 400, 0, "");
        counted("far more", 1000, "TWICE; ADD", 4, 400, 0, "");
        counted("the 400th says", 56, "TWICE; ADD; TWICE; TWICE; SAY", 4, 400, 0, "6");
        counted("the 401st does not say", 56, "TWICE; ADD; TWICE; TWICE; TWICE; SAY", 4, 400, 0, "");
        counted("the 400th adds what is no number", 56, "JOIN 0; NUMBER 1; DROP; TWICE; ADD", 1, 400, 0, "");
        counted("the 401st adds what is no number", 56, "JOIN 0; NUMBER 1; DROP; TWICE; TWICE; ADD", 4, 400, 0, "");
        counted("399 with a CALL", 56, "CALL 1", 0, 399, 2, "");
        counted("402 with two CALLs", 56, "CALL 1; CALL 1", 4, 400, 0, "");
        counted("400 with an APPLY", 56, "FUNCTION 1 0; APPLY 0", 0, 400, 2, "");
        counted("401 with an APPLY", 56, "FUNCTION 1 0; APPLY 0; GO 11", 4, 400, 0, "");
        counted("400 with a JOIN", 56, "JOIN 0; SAY; TWICE; DROP", 0, 400, 3, "a");
    }

    /** Functions 0 to 3 that return texts of 10, 100, 190 and 200 characters. */
    private static FeatureDesugarer longTexts() {
        FeatureDesugarer x = new FeatureDesugarer();
        String[] recipes = {"aaaaaaaaaa", "__________", "__", "_b", "b_", "_aaaaaaaaa", "_"};
        for (String recipe : recipes) {
            Due.recipe(x, recipe);
        }
        Due.written(x, 0, "JOIN 0; RETURN");
        Due.written(x, 0, "JOIN 0; TWICE * 9; JOIN 1; RETURN");
        Due.written(x, 0, "CALL 1; JOIN 0; TWICE * 8; JOIN 1; RETURN");
        Due.written(x, 0, "CALL 1; TWICE; JOIN 2; RETURN");
        return x;
    }

    /** The text that function 4 says, or a fault 5 with nothing said if there is none. */
    private static void textIs(String instructions, int number, String said) {
        FeatureDesugarer x = longTexts();
        Due.written(x, 1, instructions + "; SAY; NUMBER 1; RETURN");
        x.lower();
        if (said == null) {
            Due.run(instructions + " of " + number, x, Due.call(4, number, 0, 0), 5, -1, 0, 0, "");
        } else {
            Due.run(instructions + " of " + number, x, Due.call(4, number, 0, 0), 0, -1, 1, 1, said);
        }
    }

    private static void textsOf200() {
        Due.sentence("5 .. a text would have more than 200 characters");
        String a190 = "a".repeat(190);
        String a199 = "a".repeat(199);
        String a200 = "a".repeat(200);
        textIs("CALL 3", 0, a200);
        textIs("CALL 3; JOIN 6", 0, a200);
        textIs("CALL 3; JOIN 3", 0, null);
        textIs("CALL 3; JOIN 4", 0, null);
        textIs("CALL 3; LOAD 0; JOIN 2", 0, null);
        textIs("LOAD 0; CALL 3; JOIN 2", 0, null);
        textIs("CALL 3; FUNCTION 0 0; JOIN 2", 0, null);
        textIs("CALL 3; TWICE; JOIN 2", 0, null);
        textIs("CALL 2; JOIN 5", 0, a199);
        textIs("CALL 2; JOIN 5; JOIN 3", 0, a199 + "b");
        textIs("CALL 2; JOIN 5; JOIN 4", 0, "b" + a199);
        textIs("CALL 2; JOIN 5; FUNCTION 0 0; JOIN 2", 0, a199 + "f");
        textIs("CALL 2; JOIN 5; LOAD 0; JOIN 2", 9, a199 + "9");
        textIs("CALL 2; JOIN 5; LOAD 0; JOIN 2", 10, null);
        textIs("CALL 2; JOIN 5; LOAD 0; JOIN 2", -1, null);
        textIs("CALL 2; LOAD 0; JOIN 2", MOST, a190 + "2147483647");
        textIs("CALL 2; LOAD 0; JOIN 2", LEAST, null);
        textIs("CALL 2; CALL 0; JOIN 2", 0, a200);
        textIs("CALL 2; CALL 0; JOIN 3; JOIN 2", 0, null);
    }

    private static void outputOf200() {
        Due.sentence("5 the output .. would have more than 200 characters");
        Object[][] cases = {
            {"CALL 3; SAY", 0, 200, 0},
            {"CALL 3; SAY; LOAD 0; SAY", 0, 200, 5},
            {"CALL 3; SAY; FUNCTION 0 0; SAY", 0, 200, 5},
            {"CALL 3; SAY; CALL 3; SAY", 0, 200, 5},
            {"CALL 2; SAY; CALL 0; SAY", 0, 200, 0},
            {"CALL 2; SAY; LOAD 0; SAY", MOST, 200, 0},
            {"CALL 2; SAY; LOAD 0; SAY", -999999999, 200, 0},
            {"CALL 2; SAY; LOAD 0; SAY", LEAST, 190, 5},
            {"CALL 2; JOIN 5; SAY; LOAD 0; SAY", 7, 200, 0},
            {"CALL 2; JOIN 5; SAY; LOAD 0; SAY", -7, 199, 5},
            {"CALL 2; JOIN 5; SAY; FUNCTION 0 0; SAY", 0, 200, 0},
            {"CALL 0; SAY; CALL 3; SAY", 0, 10, 5},
            {"CALL 0; SAY; CALL 2; SAY", 0, 200, 0}};
        for (Object[] one : cases) {
            FeatureDesugarer x = longTexts();
            Due.written(x, 1, one[0] + "; NUMBER 1; RETURN");
            x.lower();
            for (int code = 0; code < 2; code++) {
                String what = one[0] + " of " + one[1] + (code == 0 ? ", first code" : ", plainer code");
                Due.answer(what + ": run", x.run(4, (int) one[1], 0, 0, code == 1), (int) one[3]);
                Due.answer(what + ": told(0)", x.told(0), (int) one[2]);
                Due.answer(what + ": told(3)", x.told(3), (int) one[3] == 0 ? 1 : 0);
                int length = (int) one[2];
                Due.argument(what + ": said behind the last", () -> x.said(length));
            }
        }
    }

    private static void outputByRounds() {
        Due.sentence("5 the output .. would have more than 200 characters. The first of these that is met ends the run");
        FeatureDesugarer x = new FeatureDesugarer();
        Due.written(x, 1, "LOAD 0; SAY; GO 0");
        x.lower();
        int[] numbers = {0, 9, 10, -1, 100, -10, 9999, 12345, -12345, LEAST, MOST};
        for (int number : numbers) {
            int length = ("" + number).length();
            int said = Math.min(200 / length, 133);
            int steps = Math.min(3 * said + 2, 400);
            Due.run("" + number, x, Due.call(0, number, 0, 0), length == 1 ? 4 : 5, steps, 0, 0,
                    ("" + number).repeat(said));
        }
    }

    private static void textAndOutputApart() {
        Due.sentence("5 the output or a text");
        FeatureDesugarer x = longTexts();
        Due.written(x, 0, "CALL 3; SAY; CALL 3; RETURN");
        Due.written(x, 0, "CALL 3; STORE 1; CALL 3; STORE 2; CALL 3; STORE 3; LOAD 3; SAY; LOAD 1; RETURN");
        x.lower();
        Due.run("a full output beside a full text", x, Due.call(4, 0, 0, 0), 0, -1, 0, 2, "a".repeat(200));
        Due.run("a full output beside three full texts", x, Due.call(5, 0, 0, 0), 0, -1, 0, 2, "a".repeat(200));
    }

    private static void firstFaultEnds() {
        Due.sentence("The first of these that is met ends the run");
        FeatureDesugarer x = new FeatureDesugarer();
        Due.recipe(x, "ab");
        Due.written(x, 0, "NUMBER 1; SAY; JOIN 0; SAY; JOIN 0; NUMBER 1; ADD; SAY; FUNCTION 0 0; NUMBER 1; APPLY 1; "
                + "RETURN");
        Due.written(x, 0, "NUMBER 1; SAY; FUNCTION 0 0; NUMBER 1; APPLY 1; SAY; JOIN 0; NUMBER 1; ADD; RETURN");
        Due.written(x, 1, "LOAD 0; ZERO 7; LOAD 0; NUMBER 1; LESS; CALL 2; RETURN; NUMBER 1; APPLY 0; RETURN");
        Due.written(x, 1, "LOAD 0; ZERO 7; LOAD 0; NUMBER 1; LESS; CALL 3; RETURN; FUNCTION 3 0; APPLY 0; RETURN");
        Due.written(x, 1, "LOAD 0; ZERO 7; LOAD 0; NUMBER 1; LESS; CALL 4; RETURN; LOAD 0; FUNCTION 4 1; APPLY 0; "
                + "RETURN");
        Due.written(x, 1, "LOAD 0; ZERO 7; LOAD 0; NUMBER 1; LESS; CALL 5; RETURN; GO 7");
        x.lower();
        Due.run("1 in front of 2", x, Due.call(0, 0, 0, 0), 1, 7, 0, 0, "1ab");
        Due.run("2 in front of 1", x, Due.call(1, 0, 0, 0), 2, 5, 0, 0, "1");
        Due.run("1 where a 31st would begin", x, Due.call(2, 29, 0, 0), 1, 29 * 6 + 4, 0, 0, "");
        Due.run("2 where a 31st would begin", x, Due.call(3, 29, 0, 0), 2, 29 * 6 + 4, 0, 0, "");
        Due.run("3 where a 31st begins", x, Due.call(4, 29, 0, 0), 3, 29 * 6 + 5, 0, 0, "");
        Due.run("4 in the 30th", x, Due.call(5, 29, 0, 0), 4, 400, 0, 0, "");
    }

    private static void runsAreFresh() {
        Due.sentence("function f with so many of these numbers as it has parameters");
        FeatureDesugarer x = longTexts();
        Due.written(x, 1, "LOAD 7; LOAD 1; ADD; NUMBER 5; STORE 7; NUMBER 6; STORE 1; RETURN");
        Due.written(x, 0, "CALL 3; SAY; CALL 5; RETURN");
        x.lower();
        // Locals, depth, steps, texts and output of a run that ended by a fault are gone with it.
        for (int turn = 0; turn < 3; turn++) {
            Due.run("a fault", x, Due.call(5, 0, 0, 0), 5, -1, 0, 0, "a".repeat(200));
            Due.run("a run behind it", x, Due.call(4, 9, 0, 0), 0, 8, 0, 1, "");
        }
    }

    private static void manyValues() {
        Due.sentence("13 FUNCTION a b: pops b values, pushes the function value of function a with these as its first "
                + "parameters");
        FeatureDesugarer x = new FeatureDesugarer();
        Due.recipe(x, "_a_a_");
        Due.written(x, 3, "LOAD 0; LOAD 1; LOAD 2; JOIN 0; SAY; LOAD 2; RETURN");
        int f = x.function(0);
        // Six function values stand on the stack at once, each with values of its own.
        for (int k = 0; k < 6; k++) {
            Due.more(x, f, "NUMBER " + k + "; NUMBER " + (k + 10) + "; FUNCTION 0 2");
        }
        Due.more(x, f, "NUMBER 7; APPLY 1");
        for (int k = 0; k < 5; k++) {
            Due.more(x, f, "APPLY 1");
        }
        Due.more(x, f, "RETURN");
        x.lower();
        Due.run("six at once", x, Due.call(f, 0, 0, 0), 0, 18 + 8 + 6 * 7, 7, 1,
                "5a15a74a14a73a13a72a12a71a11a70a10a7");
    }

    private static void manyRuns() {
        Due.sentence("An object is used for at most 512 calls after it has been made");
        FeatureDesugarer x = new FeatureDesugarer();
        Due.recipe(x, "_aaaaaaaaaaa");
        Due.written(x, 1, "LOAD 0; RETURN");
        // Runs with as many function values and texts as 400 steps can make, over and over.
        Due.written(x, 1, "LOAD 0; FUNCTION 0 1; DROP; GO 0");
        Due.written(x, 1, "LOAD 0; JOIN 0 * 16; DROP; GO 0");
        Due.written(x, 1, "FUNCTION 0 0; LOAD 0; APPLY 1; JOIN 0; SAY; LOAD 0; FUNCTION 0 1; APPLY 0; RETURN");
        Due.written(x, 0, "FUNCTION 4 0 * 12; DROP * 12; GO 0");
        x.lower();
        for (int turn = 0; turn < 8; turn++) {
            Due.run("many function values with a value", x, Due.call(1, 5, 0, 0), 4, 400, 0, 0, "");
            Due.run("many texts", x, Due.call(2, 5, 0, 0), 4, 400, 0, 0, "");
            Due.run("many function values", x, Due.call(4, 5, 0, 0), 4, 400, 0, 0, "");
            Due.run("a run behind them", x, Due.call(3, turn, 0, 0), 0, 13, turn, 1, turn + "aaaaaaaaaaa");
        }
    }

    private static void thirteenHigh() {
        Due.sentence("comes to a HEIGHT of the stack above 12");
        FeatureDesugarer x = new FeatureDesugarer();
        Due.recipe(x, "_b");
        Due.written(x, 1, "LOAD 0; RETURN");
        // Inside its groups the plainer code comes to 13, and does the same.
        Due.written(x, 1, "NUMBER 4; LOAD 0 * 11; FUNCTION 0 1; APPLY 0; JOIN 0; SAY; ADD * 10; RETURN");
        x.lower();
        Due.answer("size(1, 2)", x.size(1, 2), 12);
        Due.answer("size(1, 3)", x.size(1, 3), 13);
        Due.run("twelve high", x, Due.call(1, 100, 0, 0), 0, 29, 1004, 1, "100b");
    }
}
