/** Promise 2: functions get their numbers as they come, and unmake the plainer code. */
public final class FunctionTest {
    public static void main(String[] args) {
        FeatureDesugarer x = new FeatureDesugarer();
        Due.argument("function(-1)", () -> x.function(-1));
        Due.argument("function(4)", () -> x.function(4));
        Due.argument("function(least)", () -> x.function(Integer.MIN_VALUE));
        for (int k = 0; k < 12; k++) {
            Due.answer("count(0)", x.count(0), k);
            Due.answer("function", x.function(k % 4), k);
        }
        Due.state("a 13th function", () -> x.function(0));
        Due.argument("a 13th function with 4 parameters", () -> x.function(4));
        Due.answer("count(0) at last", x.count(0), 12);
        unmakes();
        parametersAreKept();
        Due.end();
    }

    private static void unmakes() {
        FeatureDesugarer x = new FeatureDesugarer();
        x.lower();
        Due.argument("function(4) behind lower()", () -> x.function(4));
        Due.answer("count(2): a call that throws changes nothing", x.count(2), 0);
        x.function(1);
        Due.state("count(2) behind function()", () -> x.count(2));
        FeatureDesugarer y = new FeatureDesugarer();
        for (int k = 0; k < 12; k++) {
            Due.function(y, 0, Due.NUMBER, 1, 0, Due.RETURN, 0, 0);
        }
        y.lower();
        Due.state("a 13th function behind lower()", () -> y.function(0));
        Due.answer("size(0, 1): a call that throws changes nothing", y.size(0, 1), 2);
    }

    private static void parametersAreKept() {
        FeatureDesugarer x = new FeatureDesugarer();
        for (int parameters = 0; parameters <= 3; parameters++) {
            Due.function(x, parameters, Due.LOAD, 0, 0, Due.LOAD, 1, 0, Due.ADD, 0, 0, Due.LOAD, 2, 0, Due.ADD, 0, 0,
                    Due.LOAD, 7, 0, Due.ADD, 0, 0, Due.RETURN, 0, 0);
        }
        x.lower();
        Due.run("no parameters", x, Due.call(0, 1, 10, 100), 0, 8, 0, 1, "");
        Due.run("one parameter", x, Due.call(1, 1, 10, 100), 0, 8, 1, 1, "");
        Due.run("two parameters", x, Due.call(2, 1, 10, 100), 0, 8, 11, 1, "");
        Due.run("three parameters", x, Due.call(3, 1, 10, 100), 0, 8, 111, 1, "");
    }
}
