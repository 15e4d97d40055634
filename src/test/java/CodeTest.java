/** Promise 3: instructions come behind a function's others. */
public final class CodeTest {
    public static void main(String[] args) {
        FeatureDesugarer x = new FeatureDesugarer();
        Due.argument("code of no function", () -> x.code(0, 0, 0, 0));
        x.function(0);
        x.function(0);
        Due.argument("code(-1, ..)", () -> x.code(-1, 0, 0, 0));
        Due.argument("code(2, ..)", () -> x.code(2, 0, 0, 0));
        Due.argument("word -1", () -> x.code(0, -1, 0, 0));
        Due.argument("word 16", () -> x.code(0, 16, 0, 0));
        Due.argument("word 20", () -> x.code(0, 20, 0, 0));
        for (int k = 0; k < 40; k++) {
            Due.answer("size(0, 0)", x.size(0, 0), k);
            Due.answer("code", x.code(0, k % 16, Integer.MAX_VALUE, Integer.MIN_VALUE), k);
        }
        Due.state("a 41st instruction", () -> x.code(0, 0, 0, 0));
        Due.argument("a 41st instruction, word 16", () -> x.code(0, 16, 0, 0));
        Due.answer("size(0, 0) at last", x.size(0, 0), 40);
        Due.answer("another function's first place", x.code(1, 0, 0, 0), 0);
        unmakes();
        Due.end();
    }

    private static void unmakes() {
        FeatureDesugarer x = new FeatureDesugarer();
        Due.function(x, 0, Due.NUMBER, 1, 0, Due.RETURN, 0, 0);
        x.lower();
        Due.argument("word 16 behind lower()", () -> x.code(0, 16, 0, 0));
        Due.answer("size(0, 1): a call that throws changes nothing", x.size(0, 1), 2);
        x.code(0, 0, 0, 0);
        Due.state("size(0, 1) behind code()", () -> x.size(0, 1));
        Due.state("run behind code()", () -> x.run(0, 0, 0, 0, false));
    }
}
