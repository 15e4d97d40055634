/** Promise 12: runs of both codes, and their faults. */
public final class RunTest {
    public static void main(String[] args) {
        exceptions();
        words();
        functionValues();
        freshLocals();
        texts();
        wrongKinds();
        wrongValues();
        depth();
        steps();
        characters();
        firstFault();
        Due.end();
    }

    private static void exceptions() {
        FeatureDesugarer x = new FeatureDesugarer();
        Due.function(x, 0, Due.NUMBER, 5, 0, Due.RETURN, 0, 0);
        Due.state("first code, not made", () -> x.run(0, 0, 0, 0, false));
        Due.state("plainer code, not made", () -> x.run(0, 0, 0, 0, true));
        Due.argument("no such function", () -> x.run(1, 0, 0, 0, true));
        x.lower();
        Due.argument("no such function", () -> x.run(1, 0, 0, 0, false));
        Due.argument("function -1", () -> x.run(-1, 0, 0, 0, false));
        Due.answer("run", x.run(0, 0, 0, 0, false), 0);
        x.function(0);
        Due.state("behind function()", () -> x.run(0, 0, 0, 0, false));
        Due.answer("what throws changes nothing", x.told(2), 5);
    }

    /** A function of three parameters, run with x, y, z, must return this number. */
    private static void number(String what, int[] xyz, int want, int... instructions) {
        FeatureDesugarer x = new FeatureDesugarer();
        Due.function(x, 3, instructions);
        Due.function(x, 3, Due.LOAD, 0, 0, Due.LOAD, 1, 0, Due.LESS, 0, 0, Due.LOAD, 2, 0, Due.LESS, 0, 0,
                Due.RETURN, 0, 0);
        x.lower();
        Due.run(what, x, Due.call(0, xyz[0], xyz[1], xyz[2]), 0, -1, want, 1, "");
    }

    private static int[] xyz(int x, int y, int z) {
        return new int[] {x, y, z};
    }

    private static void words() {
        int most = Integer.MAX_VALUE;
        number("ADD wraps", xyz(most, 1, 0), Integer.MIN_VALUE, Due.LOAD, 0, 0, Due.LOAD, 1, 0, Due.ADD, 0, 0,
                Due.RETURN, 0, 0);
        number("LESS", xyz(3, 10, 0), -7, Due.LOAD, 0, 0, Due.LOAD, 1, 0, Due.LESS, 0, 0, Due.RETURN, 0, 0);
        number("TIMES wraps", xyz(65536, 65537, 0), 65536, Due.LOAD, 0, 0, Due.LOAD, 1, 0, Due.TIMES, 0, 0,
                Due.RETURN, 0, 0);
        number("STORE and locals at 0", xyz(3, 4, 5), 8, Due.LOAD, 0, 0, Due.STORE, 7, 0, Due.LOAD, 7, 0,
                Due.LOAD, 3, 0, Due.ADD, 0, 0, Due.LOAD, 2, 0, Due.ADD, 0, 0, Due.RETURN, 0, 0);
        number("TWICE and DROP", xyz(3, 4, 5), 9, Due.LOAD, 0, 0, Due.TWICE, 0, 0, Due.LOAD, 1, 0, Due.DROP, 0, 0,
                Due.TIMES, 0, 0, Due.RETURN, 0, 0);
        number("parameters in their order", xyz(100, 20, 3), 77, Due.LOAD, 0, 0, Due.LOAD, 1, 0, Due.LOAD, 2, 0,
                Due.CALL, 1, 0, Due.RETURN, 0, 0);
        for (int value : new int[] {0, 1, -1}) {
            number("ZERO of " + value, xyz(value, 0, 0), value == 0 ? 20 : 10, Due.LOAD, 0, 0, Due.ZERO, 4, 0,
                    Due.NUMBER, 10, 0, Due.RETURN, 0, 0, Due.NUMBER, 20, 0, Due.GO, 3, 0);
        }
    }

    private static void functionValues() {
        FeatureDesugarer x = new FeatureDesugarer();
        Due.recipe(x, "_a_b_");
        Due.function(x, 3, Due.LOAD, 0, 0, Due.LOAD, 1, 0, Due.LOAD, 2, 0, Due.JOIN, 0, 0, Due.SAY, 0, 0,
                Due.LOAD, 2, 0, Due.RETURN, 0, 0);
        for (int own = 0; own <= 3; own++) {
            int f = x.function(0);
            if (own == 0) {
                x.code(f, Due.FUNCTION, 0, 0);
            }
            for (int k = 0; k < 3; k++) {
                x.code(f, Due.NUMBER, k + 1, 0);
                if (k + 1 == own) {
                    x.code(f, Due.FUNCTION, 0, own);
                }
            }
            Due.write(x, f, Due.APPLY, 3 - own, 0, Due.RETURN, 0, 0);
        }
        // A function value may hold another one, may be kept, and may be applied twice.
        int g = Due.function(x, 2, Due.LOAD, 0, 0, Due.LOAD, 1, 0, Due.APPLY, 1, 0, Due.RETURN, 0, 0);
        int h = Due.function(x, 0, Due.NUMBER, 7, 0, Due.NUMBER, 8, 0, Due.FUNCTION, 0, 2, Due.FUNCTION, g, 1,
                Due.STORE, 3, 0, Due.LOAD, 3, 0, Due.NUMBER, 5, 0, Due.APPLY, 1, 0, Due.LOAD, 3, 0,
                Due.NUMBER, 6, 0, Due.APPLY, 1, 0, Due.TIMES, 0, 0, Due.RETURN, 0, 0);
        x.lower();
        for (int own = 0; own <= 3; own++) {
            Due.run("applied with " + own + " of its own", x, Due.call(1 + own, 0, 0, 0), 0, 13, 3, 1, "1a2b3");
        }
        Due.run("one in the other", x, Due.call(h, 0, 0, 0), 0, 13 + 2 * (4 + 7), 30, 1, "7a8b57a8b6");
    }

    /** Locals behind the parameters are 0 at first, whatever was popped, kept or stored before. */
    private static void freshLocals() {
        String[] said = {"0000", "6000", "6600", "6660"};
        for (int parameters = 0; parameters <= 3; parameters++) {
            for (int own = -1; own <= parameters; own++) {
                FeatureDesugarer x = tellers();
                int f = x.function(0);
                Due.write(x, f, Due.NUMBER, 7, 0, Due.TWICE, 0, 0, Due.TWICE, 0, 0, Due.TWICE, 0, 0, Due.JOIN, 0, 0,
                        Due.NUMBER, 9, 0, Due.FUNCTION, 1, 1);
                for (int turn = 0; turn < 2; turn++) {
                    applyOrCall(x, f, parameters, own);
                }
                x.code(f, Due.RETURN, 0, 0);
                x.lower();
                Due.run("locals of " + parameters + " parameters, " + own + " of its own", x, Due.call(f, 0, 0, 0), 0,
                        -1, 5, 1, said[parameters] + said[parameters]);
            }
        }
    }

    /** Functions of 0 .. 3 parameters: each says its first four locals, then spoils some. */
    private static FeatureDesugarer tellers() {
        FeatureDesugarer x = new FeatureDesugarer();
        Due.recipe(x, "____");
        for (int parameters = 0; parameters <= 3; parameters++) {
            Due.function(x, parameters, Due.LOAD, 0, 0, Due.LOAD, 1, 0, Due.LOAD, 2, 0, Due.LOAD, 3, 0,
                    Due.JOIN, 0, 0, Due.SAY, 0, 0, Due.NUMBER, 8, 0, Due.STORE, parameters, 0, Due.NUMBER, 8, 0,
                    Due.STORE, 3, 0, Due.NUMBER, 5, 0, Due.RETURN, 0, 0);
        }
        return x;
    }

    /** Calls a teller with sixes, or, if own is not below 0, applies a function value of it. */
    private static void applyOrCall(FeatureDesugarer x, int f, int parameters, int own) {
        if (own == 0) {
            x.code(f, Due.FUNCTION, parameters, 0);
        }
        for (int k = 0; k < parameters; k++) {
            x.code(f, Due.NUMBER, 6, 0);
            if (k + 1 == own) {
                Due.write(x, f, Due.FUNCTION, parameters, own, Due.NUMBER, 9, 0, Due.FUNCTION, 1, 1, Due.DROP, 0, 0);
            }
        }
        x.code(f, own < 0 ? Due.CALL : Due.APPLY, own < 0 ? parameters : parameters - own, 0);
    }

    private static void texts() {
        FeatureDesugarer x = new FeatureDesugarer();
        Due.recipe(x, "x_y_z_");
        Due.recipe(x, "hi");
        int f = Due.function(x, 1, Due.LOAD, 0, 0, Due.SAY, 0, 0, Due.JOIN, 1, 0, Due.SAY, 0, 0, Due.FUNCTION, 0, 0,
                Due.SAY, 0, 0, Due.LOAD, 0, 0, Due.JOIN, 1, 0, Due.FUNCTION, 0, 0, Due.JOIN, 0, 0, Due.TWICE, 0, 0,
                Due.SAY, 0, 0, Due.RETURN, 0, 0);
        x.lower();
        int[] numbers = {0, 7, 10, -1, -10, 99, 100, 1234567890, 999999999, 1000000000, Integer.MAX_VALUE,
            Integer.MIN_VALUE};
        for (int n : numbers) {
            Due.run("the text of " + n, x, Due.call(f, n, 0, 0), 0, 13, 0, 2, n + "hifx" + n + "yhizf");
        }
    }

    /** A second function with this code must end by the fault, in its last step. */
    private static void fault(String what, int fault, int steps, int... instructions) {
        FeatureDesugarer x = new FeatureDesugarer();
        Due.recipe(x, "a");
        Due.function(x, 2, Due.LOAD, 0, 0, Due.RETURN, 0, 0);
        int f = Due.function(x, 0, instructions);
        Due.answer(what + ": check()", x.check(), -1);
        x.lower();
        Due.run(what, x, Due.call(f, 0, 0, 0), fault, steps, 0, 0, "");
    }

    private static void wrongKinds() {
        int[][] noNumbers = {{Due.JOIN, 0, 0}, {Due.FUNCTION, 0, 0}};
        for (int[] no : noNumbers) {
            for (int word : new int[] {Due.ADD, Due.LESS, Due.TIMES}) {
                fault("upper is no number", 1, 3, Due.NUMBER, 1, 0, no[0], no[1], no[2], word, 0, 0, Due.RETURN, 0, 0);
                fault("lower is no number", 1, 3, no[0], no[1], no[2], Due.NUMBER, 1, 0, word, 0, 0, Due.RETURN, 0, 0);
            }
            fault("ZERO of no number", 1, 2, no[0], no[1], no[2], Due.ZERO, 0, 0, Due.GO, 0, 0);
        }
        fault("APPLY of a number", 1, 3, Due.NUMBER, 1, 0, Due.NUMBER, 1, 0, Due.APPLY, 1, 0, Due.RETURN, 0, 0);
        fault("APPLY of a text", 1, 2, Due.JOIN, 0, 0, Due.APPLY, 0, 0, Due.RETURN, 0, 0);
    }

    private static void wrongValues() {
        fault("one too few", 2, 3, Due.FUNCTION, 0, 0, Due.NUMBER, 1, 0, Due.APPLY, 1, 0, Due.RETURN, 0, 0);
        fault("one too many", 2, 5, Due.FUNCTION, 0, 0, Due.NUMBER, 1, 0, Due.TWICE, 0, 0, Due.TWICE, 0, 0,
                Due.APPLY, 3, 0, Due.RETURN, 0, 0);
        fault("one too many beside its own", 2, 5, Due.NUMBER, 1, 0, Due.FUNCTION, 0, 1, Due.NUMBER, 1, 0,
                Due.TWICE, 0, 0, Due.APPLY, 2, 0, Due.RETURN, 0, 0);
        fault("none too few beside its own", 2, 3, Due.NUMBER, 1, 0, Due.FUNCTION, 0, 1, Due.APPLY, 0, 0,
                Due.RETURN, 0, 0);
    }

    private static void depth() {
        FeatureDesugarer x = new FeatureDesugarer();
        // Both count down from their parameter, and call themselves while it is not 0.
        Due.function(x, 1, Due.LOAD, 0, 0, Due.ZERO, 7, 0, Due.LOAD, 0, 0, Due.NUMBER, 1, 0, Due.LESS, 0, 0,
                Due.CALL, 0, 0, Due.RETURN, 0, 0, Due.NUMBER, 9, 0, Due.RETURN, 0, 0);
        Due.function(x, 1, Due.LOAD, 0, 0, Due.ZERO, 8, 0, Due.FUNCTION, 1, 0, Due.LOAD, 0, 0, Due.NUMBER, 1, 0,
                Due.LESS, 0, 0, Due.APPLY, 1, 0, Due.RETURN, 0, 0, Due.NUMBER, 9, 0, Due.RETURN, 0, 0);
        // Functions that have ended are not open any more.
        Due.function(x, 1, Due.LOAD, 0, 0, Due.ZERO, 10, 0, Due.NUMBER, 0, 0, Due.CALL, 1, 0, Due.DROP, 0, 0,
                Due.LOAD, 0, 0, Due.NUMBER, 1, 0, Due.LESS, 0, 0, Due.STORE, 0, 0, Due.GO, 0, 0, Due.LOAD, 0, 0,
                Due.RETURN, 0, 0);
        x.lower();
        Due.run("30 by CALL", x, Due.call(0, 29, 0, 0), 0, 29 * 7 + 4, 9, 1, "");
        Due.run("31 by CALL", x, Due.call(0, 30, 0, 0), 3, 30 * 6, 0, 0, "");
        Due.run("30 by APPLY", x, Due.call(1, 29, 0, 0), 0, 29 * 8 + 4, 9, 1, "");
        Due.run("31 by APPLY", x, Due.call(1, 30, 0, 0), 3, 30 * 7, 0, 0, "");
        Due.run("28 one behind the other", x, Due.call(2, 28, 0, 0), 0, 28 * 14 + 4, 0, 1, "");
        depthBehindApply();
    }

    /** An APPLY that has ended leaves the depth as it was, of the first class and of others. */
    private static void depthBehindApply() {
        FeatureDesugarer x = new FeatureDesugarer();
        for (int f = 0; f < 2; f++) {
            Due.function(x, 1, Due.FUNCTION, 2, 0, Due.NUMBER, 0, 0, Due.APPLY, 1, 0, Due.DROP, 0, 0,
                    Due.LOAD, 0, 0, Due.CALL, 2, 0, Due.RETURN, 0, 0);
        }
        Due.function(x, 1, Due.LOAD, 0, 0, Due.ZERO, 7, 0, Due.LOAD, 0, 0, Due.NUMBER, 1, 0, Due.LESS, 0, 0,
                Due.CALL, 2, 0, Due.RETURN, 0, 0, Due.NUMBER, 9, 0, Due.RETURN, 0, 0);
        x.lower();
        for (int f = 0; f < 2; f++) {
            Due.run("30 behind an APPLY", x, Due.call(f, 28, 0, 0), 0, 3 + 4 + 3 + 28 * 7 + 4 + 1, 9, 1, "");
            Due.run("31 behind an APPLY", x, Due.call(f, 29, 0, 0), 3, 3 + 4 + 3 + 29 * 6, 0, 0, "");
        }
    }

    private static void steps() {
        FeatureDesugarer x = new FeatureDesugarer();
        Due.function(x, 1, Due.LOAD, 0, 0, Due.ZERO, 7, 0, Due.LOAD, 0, 0, Due.NUMBER, 1, 0, Due.LESS, 0, 0,
                Due.STORE, 0, 0, Due.GO, 0, 0, Due.LOAD, 0, 0, Due.RETURN, 0, 0);
        int[] fronts = {3, 4};
        for (int front : fronts) {
            int f = x.function(1);
            for (int k = 0; k < front; k++) {
                x.code(f, Due.GO, k + 1, 0);
            }
            Due.write(x, f, Due.LOAD, 0, 0, Due.CALL, 0, 0, Due.RETURN, 0, 0);
        }
        x.lower();
        Due.run("396 steps", x, Due.call(0, 56, 0, 0), 0, 56 * 7 + 4, 0, 1, "");
        Due.run("395 steps", x, Due.call(1, 55, 0, 0), 0, 55 * 7 + 10, 0, 1, "");
        Due.run("too many steps", x, Due.call(0, 57, 0, 0), 4, 400, 0, 0, "");
        exactSteps();
    }

    /** 400 steps are none too many; the 401st ends the run before it is done. */
    private static void exactSteps() {
        FeatureDesugarer x = new FeatureDesugarer();
        int f = x.function(1);
        // A round of 7 steps, x times; then 4 steps and as many GOs as there are to come to 400 and to 401.
        Due.write(x, f, Due.LOAD, 0, 0, Due.ZERO, 7, 0, Due.LOAD, 0, 0, Due.NUMBER, 1, 0, Due.LESS, 0, 0,
                Due.STORE, 0, 0, Due.GO, 0, 0);
        for (int k = 7; k < 11; k++) {
            x.code(f, Due.GO, k + 1, 0);
        }
        Due.write(x, f, Due.NUMBER, 3, 0, Due.RETURN, 0, 0);
        int g = x.function(1);
        Due.write(x, g, Due.LOAD, 0, 0, Due.ZERO, 7, 0, Due.LOAD, 0, 0, Due.NUMBER, 1, 0, Due.LESS, 0, 0,
                Due.STORE, 0, 0, Due.GO, 0, 0);
        for (int k = 7; k < 11; k++) {
            x.code(g, Due.GO, k + 1, 0);
        }
        Due.write(x, g, Due.NUMBER, 3, 0, Due.SAY, 0, 0, Due.NUMBER, 3, 0, Due.RETURN, 0, 0);
        x.lower();
        Due.run("400 steps", x, Due.call(f, 56, 0, 0), 0, 400, 3, 1, "");
        Due.run("401 steps would be", x, Due.call(g, 56, 0, 0), 4, 400, 0, 0, "3");
    }

    private static void characters() {
        FeatureDesugarer x = new FeatureDesugarer();
        Due.recipe(x, "aaaaaaaaaa");
        Due.recipe(x, "__________");
        Due.recipe(x, "__");
        Due.recipe(x, "_b");
        Due.recipe(x, "b_");
        int[] ten = {Due.JOIN, 0, 0};
        int[] hundred = {Due.JOIN, 0, 0, Due.TWICE, 0, 0, Due.TWICE, 0, 0, Due.TWICE, 0, 0, Due.TWICE, 0, 0,
            Due.TWICE, 0, 0, Due.TWICE, 0, 0, Due.TWICE, 0, 0, Due.TWICE, 0, 0, Due.TWICE, 0, 0, Due.JOIN, 1, 0};
        int full = x.function(0);
        Due.write(x, full, hundred);
        Due.write(x, full, Due.TWICE, 0, 0, Due.JOIN, 2, 0, Due.RETURN, 0, 0);
        int behind = Due.function(x, 0, Due.CALL, full, 0, Due.JOIN, 3, 0, Due.RETURN, 0, 0);
        int before = Due.function(x, 0, Due.CALL, full, 0, Due.JOIN, 4, 0, Due.RETURN, 0, 0);
        int hole = Due.function(x, 0, Due.CALL, full, 0, Due.NUMBER, 1, 0, Due.JOIN, 2, 0, Due.RETURN, 0, 0);
        int said = Due.function(x, 0, Due.CALL, full, 0, Due.SAY, 0, 0, Due.NUMBER, 1, 0, Due.RETURN, 0, 0);
        int more = Due.function(x, 0, Due.CALL, full, 0, Due.SAY, 0, 0, Due.NUMBER, 1, 0, Due.SAY, 0, 0,
                Due.NUMBER, 1, 0, Due.RETURN, 0, 0);
        int none = Due.function(x, 0, Due.NUMBER, 12, 0, Due.SAY, 0, 0, Due.CALL, full, 0, Due.SAY, 0, 0,
                Due.NUMBER, 1, 0, Due.RETURN, 0, 0);
        int same = x.function(0);
        Due.write(x, same, ten);
        Due.write(x, same, Due.TWICE, 0, 0, Due.JOIN, 2, 0, Due.SAY, 0, 0, Due.JOIN, 0, 0, Due.RETURN, 0, 0);
        x.lower();
        String long200 = "a".repeat(200);
        Due.run("a text of 200", x, Due.call(full, 0, 0, 0), 0, 14, 0, 2, "");
        Due.run("a letter behind 200", x, Due.call(behind, 0, 0, 0), 5, 16, 0, 0, "");
        Due.run("a letter before 200", x, Due.call(before, 0, 0, 0), 5, 16, 0, 0, "");
        Due.run("a digit behind 200", x, Due.call(hole, 0, 0, 0), 5, 17, 0, 0, "");
        Due.run("an output of 200", x, Due.call(said, 0, 0, 0), 0, 18, 1, 1, long200);
        Due.run("an output of 201", x, Due.call(more, 0, 0, 0), 5, 18, 0, 0, long200);
        Due.run("of what does not fit nothing is said", x, Due.call(none, 0, 0, 0), 5, 18, 0, 0, "12");
        Due.run("a text is not changed by others", x, Due.call(same, 0, 0, 0), 0, 6, 0, 2, "a".repeat(20));
    }

    private static void firstFault() {
        fault("kind before values", 1, 2, Due.NUMBER, 1, 0, Due.APPLY, 0, 0, Due.RETURN, 0, 0);
        FeatureDesugarer x = new FeatureDesugarer();
        // The 31st function would be begun with wrong values: values come before depth.
        Due.function(x, 1, Due.LOAD, 0, 0, Due.ZERO, 7, 0, Due.LOAD, 0, 0, Due.NUMBER, 1, 0, Due.LESS, 0, 0,
                Due.CALL, 0, 0, Due.RETURN, 0, 0, Due.FUNCTION, 0, 0, Due.APPLY, 0, 0, Due.RETURN, 0, 0);
        x.lower();
        Due.run("values before depth", x, Due.call(0, 29, 0, 0), 2, 29 * 6 + 4, 0, 0, "");
    }
}
