/** Promise 7: how many there are. */
public final class CountTest {
    public static void main(String[] args) {
        FeatureDesugarer x = new FeatureDesugarer();
        Due.argument("count(-1)", () -> x.count(-1));
        Due.argument("count(4)", () -> x.count(4));
        Due.recipe(x, "a_b");
        Due.recipe(x, "__");
        Due.recipe(x, "xyz");
        Due.function(x, 1, Due.FUNCTION, 0, 0, Due.FUNCTION, 0, 1, Due.RETURN, 0, 0, Due.FUNCTION, 0, 0);
        Due.function(x, 0, Due.FUNCTION, 0, 0, Due.RETURN, 0, 0);
        Due.answer("count(0)", x.count(0), 2);
        Due.answer("count(1)", x.count(1), 3);
        Due.state("count(2)", () -> x.count(2));
        Due.state("count(3)", () -> x.count(3));
        x.lower();
        Due.answer("count(0)", x.count(0), 2);
        Due.answer("count(1)", x.count(1), 3);
        Due.answer("count(2), with one that no way meets", x.count(2), 4);
        Due.answer("count(3), holes left out", x.count(3), 5);
        x.lower();
        Due.answer("count(2) behind another lower()", x.count(2), 4);
        Due.answer("count(3) behind another lower()", x.count(3), 5);
        Due.argument("count(4)", () -> x.count(4));
        Due.end();
    }
}
