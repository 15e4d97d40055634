/** Promise 10: the classes that are made, by functions and places. */
public final class MadeTest {
    public static void main(String[] args) {
        FeatureDesugarer x = new FeatureDesugarer();
        Due.function(x, 3, Due.LOAD, 0, 0, Due.FUNCTION, 2, 1, Due.LOAD, 0, 0, Due.FUNCTION, 0, 2, Due.RETURN, 0, 0,
                Due.FUNCTION, 1, 0);
        Due.function(x, 0, Due.FUNCTION, 0, 0, Due.RETURN, 0, 0);
        Due.function(x, 2, Due.NUMBER, 1, 0, Due.TWICE, 0, 0, Due.TWICE, 0, 0, Due.FUNCTION, 0, 3, Due.RETURN, 0, 0);
        Due.state("made(0, 0)", () -> x.made(0, 0));
        Due.state("made(99, 2)", () -> x.made(99, 2));
        Due.argument("made(0, 3)", () -> x.made(0, 3));
        Due.argument("made(0, -1)", () -> x.made(0, -1));
        Due.argument("made(-1, 0)", () -> x.made(-1, 0));
        x.lower();
        due(x, 0, 1, 2, 4);
        due(x, 1, 2, 0, 5);
        due(x, 2, 0, 1, 2);
        due(x, 3, 0, 0, 5);
        due(x, 4, 3, 0, 5);
        Due.argument("made(5, 0)", () -> x.made(5, 0));
        Due.argument("made(-1, 0)", () -> x.made(-1, 0));
        Due.argument("made(0, 3)", () -> x.made(0, 3));
        Due.argument("made(0, -1)", () -> x.made(0, -1));
        Due.recipe(x, "a");
        Due.state("made(0, 0) behind recipe()", () -> x.made(0, 0));
        Due.end();
    }

    private static void due(FeatureDesugarer x, int cls, int values, int function, int length) {
        Due.answer("made(" + cls + ", 0)", x.made(cls, 0), values);
        Due.answer("made(" + cls + ", 1)", x.made(cls, 1), function);
        Due.answer("made(" + cls + ", 2)", x.made(cls, 2), length);
    }
}
