/** Promise 11: the table of the recipes' characters. */
public final class CharacterTest {
    public static void main(String[] args) {
        FeatureDesugarer x = new FeatureDesugarer();
        Due.state("character(0)", () -> x.character(0));
        Due.argument("character(-1)", () -> x.character(-1));
        x.lower();
        Due.argument("character(0) of an empty table", () -> x.character(0));
        Due.recipe(x, "_za");
        Due.recipe(x, "___");
        Due.recipe(x, "b_c_");
        Due.state("character(0) behind recipe()", () -> x.character(0));
        x.lower();
        int[] table = {25, 0, 1, 2};
        for (int k = 0; k < table.length; k++) {
            Due.answer("character(" + k + ")", x.character(k), table[k]);
        }
        Due.argument("character(4)", () -> x.character(4));
        Due.argument("character(-1)", () -> x.character(-1));
        longest();
        Due.end();
    }

    private static void longest() {
        FeatureDesugarer x = new FeatureDesugarer();
        for (int k = 0; k < 8; k++) {
            Due.recipe(x, "abcdefghijkl");
        }
        x.lower();
        Due.answer("count(3)", x.count(3), 96);
        Due.answer("character(95)", x.character(95), 11);
        Due.argument("character(96)", () -> x.character(96));
    }
}
