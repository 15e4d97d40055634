/** Promise 13: what is told of the latest run. */
public final class ToldTest {
    public static void main(String[] args) {
        FeatureDesugarer x = new FeatureDesugarer();
        Due.argument("told(-1)", () -> x.told(-1));
        Due.argument("told(4)", () -> x.told(4));
        due("without a run", x, 0, 0, 0, 0);
        Due.recipe(x, "abc");
        Due.function(x, 1, Due.LOAD, 0, 0, Due.TWICE, 0, 0, Due.SAY, 0, 0, Due.RETURN, 0, 0);
        Due.function(x, 0, Due.JOIN, 0, 0, Due.RETURN, 0, 0);
        Due.function(x, 0, Due.FUNCTION, 1, 0, Due.RETURN, 0, 0);
        Due.function(x, 0, Due.NUMBER, 77, 0, Due.SAY, 0, 0, Due.NUMBER, 5, 0, Due.JOIN, 0, 0, Due.ADD, 0, 0,
                Due.RETURN, 0, 0);
        Due.function(x, 1, Due.LOAD, 0, 0, Due.FUNCTION, 0, 1, Due.RETURN, 0, 0);
        x.lower();
        due("behind lower()", x, 0, 0, 0, 0);
        for (int code = 0; code < 2; code++) {
            boolean plainer = code == 1;
            x.run(0, -123, 0, 0, plainer);
            due("a number", x, 4, 4, -123, 1);
            x.run(1, 0, 0, 0, plainer);
            due("a text", x, 0, 2, 0, 2);
            x.run(2, 0, 0, 0, plainer);
            due("a function value", x, 0, 2, 0, 3);
            x.run(3, 0, 0, 0, plainer);
            due("a fault", x, 2, 5, 0, 0);
            x.run(4, 3, 0, 0, plainer);
            due("a function value with a value", x, 0, 3, 0, 3);
            x.run(0, 0, 0, 0, plainer);
            due("the number 0", x, 1, 4, 0, 1);
        }
        Due.argument("told(4)", () -> x.told(4));
        Due.argument("told(-1)", () -> x.told(-1));
        x.function(0);
        Due.state("run", () -> x.run(0, 5, 0, 0, false));
        due("of the latest run, whatever came behind it", x, 1, 4, 0, 1);
        Due.end();
    }

    private static void due(String what, FeatureDesugarer x, int characters, int steps, int number, int kind) {
        Due.answer(what + ": told(0)", x.told(0), characters);
        Due.answer(what + ": told(1)", x.told(1), steps);
        Due.answer(what + ": told(2)", x.told(2), number);
        Due.answer(what + ": told(3)", x.told(3), kind);
    }
}
