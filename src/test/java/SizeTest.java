/** Promise 8: how many instructions a function has, and its greatest heights. */
public final class SizeTest {
    public static void main(String[] args) {
        bounds();
        greatest("NUMBER", 1, 1, Due.NUMBER, 0, 0, Due.RETURN, 0, 0);
        greatest("a loop with nothing on the stack", 0, 0, Due.GO, 0, 0);
        greatest("NEW stands above its value", 1, 2, Due.NUMBER, 0, 0, Due.FUNCTION, 0, 1, Due.RETURN, 0, 0);
        greatest("NEW with nothing", 1, 1, Due.FUNCTION, 0, 0, Due.RETURN, 0, 0);
        greatest("one hole", 1, 2, Due.NUMBER, 0, 0, Due.JOIN, 1, 0, Due.RETURN, 0, 0);
        greatest("two holes", 2, 2, Due.NUMBER, 0, 0, Due.TWICE, 0, 0, Due.JOIN, 2, 0, Due.RETURN, 0, 0);
        greatest("no hole", 1, 1, Due.JOIN, 0, 0, Due.RETURN, 0, 0);
        greatest("what no way meets is left out", 1, 1, Due.NUMBER, 0, 0, Due.RETURN, 0, 0, Due.TWICE, 0, 0,
                Due.FUNCTION, 0, 1);
        greatest("behind a GO", 3, 3, Due.GO, 3, 0, Due.TWICE, 0, 0, Due.RETURN, 0, 0, Due.NUMBER, 1, 0,
                Due.TWICE, 0, 0, Due.GO, 1, 0);
        greatest("APPLY", 3, 3, Due.FUNCTION, 0, 0, Due.NUMBER, 0, 0, Due.NUMBER, 0, 0, Due.APPLY, 2, 0,
                Due.RETURN, 0, 0);
        greatest("CALL", 2, 2, Due.NUMBER, 0, 0, Due.CALL, 0, 0, Due.NUMBER, 0, 0, Due.RETURN, 0, 0);
        thirteen();
        Due.end();
    }

    private static void bounds() {
        FeatureDesugarer x = new FeatureDesugarer();
        Due.function(x, 1, Due.LOAD, 0, 0, Due.FUNCTION, 0, 1, Due.RETURN, 0, 0);
        x.function(0);
        for (int what = 1; what <= 3; what++) {
            int asked = what;
            Due.state("size(0, " + what + ")", () -> x.size(0, asked));
            Due.argument("size(2, " + what + ")", () -> x.size(2, asked));
        }
        Due.argument("size(0, -1)", () -> x.size(0, -1));
        Due.argument("size(0, 4)", () -> x.size(0, 4));
        Due.argument("size(-1, 0)", () -> x.size(-1, 0));
        Due.answer("size(0, 0)", x.size(0, 0), 3);
        Due.answer("size(1, 0)", x.size(1, 0), 0);
        Due.write(x, 1, Due.NUMBER, 1, 0, Due.RETURN, 0, 0);
        x.lower();
        Due.answer("size(0, 1)", x.size(0, 1), 8);
        Due.answer("size(1, 1)", x.size(1, 1), 2);
        Due.answer("size(0, 0) behind lower()", x.size(0, 0), 3);
        Due.argument("size(2, 1)", () -> x.size(2, 1));
        Due.argument("size(0, 4)", () -> x.size(0, 4));
        x.function(0);
        Due.state("size(0, 2) behind function()", () -> x.size(0, 2));
    }

    /** The greatest heights of a second function. */
    private static void greatest(String what, int first, int plainer, int... instructions) {
        FeatureDesugarer x = new FeatureDesugarer();
        Due.recipe(x, "ab");
        Due.recipe(x, "a_");
        Due.recipe(x, "__");
        Due.function(x, 1, Due.LOAD, 0, 0, Due.TWICE, 0, 0, Due.TWICE, 0, 0, Due.TWICE, 0, 0, Due.RETURN, 0, 0);
        int f = Due.function(x, 0, instructions);
        x.lower();
        Due.answer(what + ": size(1, 2)", x.size(f, 2), first);
        Due.answer(what + ": size(1, 3)", x.size(f, 3), plainer);
        Due.answer(what + ": size(0, 2)", x.size(0, 2), 4);
    }

    /** The plainer code may come one above the greatest height of the first code, and must still run. */
    private static void thirteen() {
        FeatureDesugarer x = new FeatureDesugarer();
        Due.recipe(x, "_");
        Due.function(x, 1, Due.LOAD, 0, 0, Due.RETURN, 0, 0);
        int f = x.function(0);
        for (int k = 0; k < 12; k++) {
            x.code(f, Due.NUMBER, k, 0);
        }
        Due.write(x, f, Due.FUNCTION, 0, 1, Due.JOIN, 0, 0, Due.SAY, 0, 0, Due.RETURN, 0, 0);
        Due.answer("lower()", x.lower(), 2 + 12 + 6 + 4 + 2);
        Due.answer("twelve high", x.size(f, 2), 12);
        Due.answer("thirteen high", x.size(f, 3), 13);
        Due.run("thirteen high", x, Due.call(f, 0, 0, 0), 0, 16, 10, 1, "f");
    }
}
