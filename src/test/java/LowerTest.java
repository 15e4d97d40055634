/** Promise 6: lower() makes the plainer code of functions that are all right. */
public final class LowerTest {
    public static void main(String[] args) {
        groupLengths();
        notRight();
        largest();
        Due.end();
    }

    private static void groupLengths() {
        FeatureDesugarer x = new FeatureDesugarer();
        Due.recipe(x, "abc");
        Due.recipe(x, "a_bc_d");
        Due.recipe(x, "__");
        Due.function(x, 3, Due.NUMBER, 0, 0, Due.RETURN, 0, 0);
        Due.answer("two words", x.lower(), 2);
        Due.answer("two words again", x.lower(), 2);
        int f = x.function(3);
        int total = 2;
        int[] lengths = {1, 6, 9, 12};
        for (int b = 0; b <= 3; b++) {
            x.code(f, Due.LOAD, b, 0);
            x.code(f, Due.TWICE, 0, 0);
            x.code(f, Due.TWICE, 0, 0);
            x.code(f, Due.FUNCTION, 0, b);
            x.code(f, Due.RETURN, 0, 0);
            total += 4 + lengths[b];
            Due.answer("FUNCTION with " + b, x.lower(), total);
        }
        int[] joins = {2, 2 + 1 + 4 + 3, 2 + 1 + 4};
        for (int recipe = 0; recipe < 3; recipe++) {
            x.code(f, Due.JOIN, recipe, 0);
            total += joins[recipe];
            Due.answer("JOIN by " + recipe, x.lower(), total);
        }
        x.code(f, Due.APPLY, 3, 0);
        Due.answer("APPLY", x.lower(), total + 1);
        Due.answer("methods are not counted", x.count(2), 4);
    }

    private static void notRight() {
        FeatureDesugarer x = new FeatureDesugarer();
        Due.function(x, 0, Due.NUMBER, 0, 0, Due.RETURN, 0, 0);
        x.function(0);
        Due.answer("a function without instructions", x.lower(), -1);
        Due.state("count(2)", () -> x.count(2));
        Due.write(x, 1, Due.NUMBER, 0, 0, Due.RETURN, 0, 0);
        Due.answer("both are right", x.lower(), 4);
        Due.answer("count(2)", x.count(2), 0);
    }

    /** The longest code that there is: 12 functions with JOINs of twelve holes, and as many classes as fit. */
    private static void largest() {
        FeatureDesugarer x = new FeatureDesugarer();
        Due.recipe(x, "____________");
        for (int f = 0; f < 12; f++) {
            x.function(3);
            Due.write(x, f, Due.NUMBER, 0, 0, Due.RETURN, 0, 0);
            for (int k = 2; k < 40; k++) {
                x.code(f, f == 11 ? Due.FUNCTION : Due.JOIN, 0, f == 11 ? 3 : 0);
            }
        }
        Due.answer("the longest code", x.lower(), 12 * 2 + 11 * 38 * 37 + 38 * 12);
        Due.answer("classes", x.count(2), 38);
        Due.answer("a method", x.made(37, 2), 5);
        Due.answer("the last word", x.plain(11, 2 + 38 * 12 - 1, 0), Due.PUT);
    }
}
