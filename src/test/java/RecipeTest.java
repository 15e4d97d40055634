/** Promise 4: recipes are read from digits to the base of 32. */
public final class RecipeTest {
    public static void main(String[] args) {
        FeatureDesugarer x = new FeatureDesugarer();
        wrongOnes(x);
        Due.answer("recipe a", x.recipe(1), 0);
        Due.answer("recipe z", x.recipe(26), 1);
        Due.answer("recipe _", x.recipe(27), 2);
        Due.answer("twelve z", Due.recipe(x, "zzzzzzzzzzzz"), 3);
        Due.answer("twelve holes", Due.recipe(x, "____________"), 4);
        for (int k = 5; k < 8; k++) {
            Due.answer("count(1)", x.count(1), k);
            Due.answer("recipe ab", x.recipe(1 + 2 * 32), k);
        }
        Due.state("a ninth recipe", () -> x.recipe(1));
        Due.argument("a ninth recipe of nothing", () -> x.recipe(0));
        Due.answer("count(1) at last", x.count(1), 8);
        Due.answer("lower()", x.lower(), 0);
        Due.answer("letters", x.count(3), 1 + 1 + 12 + 6);
        Due.answer("the lowest digit is the first letter", x.character(14), 0);
        Due.answer("the next one is the second", x.character(15), 1);
        Due.state("a ninth recipe behind lower()", () -> x.recipe(1));
        Due.answer("a call that throws changes nothing", x.count(3), 20);
        unmakes();
        Due.end();
    }

    private static void wrongOnes(FeatureDesugarer x) {
        long[] wrong = {0, -1, Long.MIN_VALUE, Long.MAX_VALUE, 28, 29, 30, 31, 32, 1 + 28 * 32, 1 + 1024, 28 + 32,
            1L << 60, Due.characters("aaaaaaaaaaaa") + (1L << 60), 1L << 55, 31L << 55,
            Due.characters("aaaaaaaaaaa") + (28L << 55), -Due.characters("a")};
        for (long characters : wrong) {
            Due.argument("recipe(" + characters + ")", () -> x.recipe(characters));
        }
        Due.answer("count(1) behind wrong ones", x.count(1), 0);
    }

    private static void unmakes() {
        FeatureDesugarer x = new FeatureDesugarer();
        x.lower();
        Due.argument("recipe(0) behind lower()", () -> x.recipe(0));
        Due.answer("count(2): a call that throws changes nothing", x.count(2), 0);
        x.recipe(1);
        Due.state("count(2) behind recipe()", () -> x.count(2));
    }
}
