/** Promise 5: the first function that is not right, and its place. */
public final class CheckTest {
    public static void main(String[] args) {
        bounds();
        popsTooMuch();
        heights();
        ways();
        order();
        Due.end();
    }

    private static FeatureDesugarer object() {
        FeatureDesugarer x = new FeatureDesugarer();
        Due.function(x, 2, Due.LOAD, 0, 0, Due.RETURN, 0, 0);
        Due.recipe(x, "a_b_");
        return x;
    }

    /** What check() answers of a second function with this code. */
    private static void due(String what, int want, int... instructions) {
        FeatureDesugarer x = object();
        Due.function(x, 1, instructions);
        Due.answer(what + ": check()", x.check(), want == -1 ? -1 : 64 + want);
        Due.answer(what + ": check() again", x.check(), want == -1 ? -1 : 64 + want);
        if (want != -1) {
            Due.answer(what + ": lower()", x.lower(), -1);
        }
    }

    /** An instruction that no way meets is asked for its numbers alone. */
    private static void unmet(boolean right, int word, int a, int b) {
        due("unmet " + word + " " + a + " " + b, right ? -1 : 2, Due.NUMBER, 0, 0, Due.RETURN, 0, 0, word, a, b);
    }

    private static void bounds() {
        due("no instructions", 0);
        for (int word : new int[] {Due.LOAD, Due.STORE}) {
            unmet(true, word, 0, 0);
            unmet(true, word, 7, 99);
            unmet(false, word, 8, 0);
            unmet(false, word, -1, 0);
        }
        for (int word : new int[] {Due.GO, Due.ZERO}) {
            unmet(true, word, 0, -5);
            unmet(true, word, 2, 0);
            unmet(false, word, 3, 0);
            unmet(false, word, -1, 0);
        }
        unmet(true, Due.CALL, 1, 0);
        unmet(false, Due.CALL, 2, 0);
        unmet(false, Due.CALL, -1, 0);
        unmet(true, Due.FUNCTION, 0, 2);
        unmet(true, Due.FUNCTION, 1, 1);
        unmet(true, Due.FUNCTION, 1, 0);
        unmet(false, Due.FUNCTION, 0, 3);
        unmet(false, Due.FUNCTION, 1, 2);
        unmet(false, Due.FUNCTION, 1, -1);
        unmet(false, Due.FUNCTION, 2, 0);
        unmet(false, Due.FUNCTION, -1, 0);
        unmet(true, Due.APPLY, 0, 0);
        unmet(true, Due.APPLY, 3, 0);
        unmet(false, Due.APPLY, 4, 0);
        unmet(false, Due.APPLY, -1, 0);
        unmet(true, Due.JOIN, 0, 0);
        unmet(false, Due.JOIN, 1, 0);
        unmet(false, Due.JOIN, -1, 0);
        for (int word : new int[] {Due.NUMBER, Due.ADD, Due.LESS, Due.TIMES, Due.TWICE, Due.DROP, Due.RETURN,
            Due.SAY}) {
            unmet(true, word, Integer.MIN_VALUE, Integer.MAX_VALUE);
        }
    }

    /** A word that pops must be wrong with one value less than it pops, and right with as many. */
    private static void pops(int pops, int word, int a, int b) {
        for (int height = Math.max(0, pops - 1); height <= pops; height++) {
            FeatureDesugarer x = object();
            int f = x.function(1);
            for (int k = 0; k < height; k++) {
                x.code(f, Due.LOAD, 0, 0);
            }
            x.code(f, word, a == -1 ? height + 1 : a, b);
            Due.write(x, f, Due.LOAD, 0, 0, Due.RETURN, 0, 0);
            Due.answer("word " + word + " at height " + height, x.check(), height < pops ? 64 + height : -1);
        }
    }

    private static void popsTooMuch() {
        pops(0, Due.NUMBER, 5, 0);
        pops(0, Due.LOAD, 5, 0);
        pops(1, Due.STORE, 5, 0);
        pops(2, Due.ADD, 0, 0);
        pops(2, Due.LESS, 0, 0);
        pops(2, Due.TIMES, 0, 0);
        pops(1, Due.TWICE, 0, 0);
        pops(1, Due.DROP, 0, 0);
        pops(0, Due.GO, -1, 0);
        pops(1, Due.ZERO, -1, 0);
        pops(2, Due.CALL, 0, 0);
        pops(1, Due.CALL, 1, 0);
        pops(1, Due.RETURN, 0, 0);
        pops(1, Due.SAY, 0, 0);
        pops(0, Due.FUNCTION, 0, 0);
        pops(1, Due.FUNCTION, 0, 1);
        pops(2, Due.FUNCTION, 0, 2);
        pops(1, Due.APPLY, 0, 0);
        pops(4, Due.APPLY, 3, 0);
        pops(2, Due.JOIN, 0, 0);
    }

    private static void heights() {
        int[] words = {Due.NUMBER, Due.TWICE, Due.LOAD, Due.FUNCTION, Due.JOIN};
        for (int word : words) {
            for (int height = 11; height <= 12; height++) {
                FeatureDesugarer x = new FeatureDesugarer();
                Due.recipe(x, "a");
                int f = x.function(0);
                for (int k = 0; k < height; k++) {
                    x.code(f, Due.NUMBER, 1, 0);
                }
                x.code(f, word, 0, 0);
                x.code(f, Due.RETURN, 0, 0);
                Due.answer("word " + word + " above " + height, x.check(), height == 12 ? 12 : -1);
            }
        }
        FeatureDesugarer x = new FeatureDesugarer();
        Due.recipe(x, "____________");
        int f = x.function(0);
        for (int k = 0; k < 12; k++) {
            x.code(f, Due.NUMBER, 1, 0);
        }
        Due.write(x, f, Due.JOIN, 0, 0, Due.RETURN, 0, 0);
        Due.answer("twelve values joined", x.check(), -1);
    }

    private static void ways() {
        due("beyond the last one", 0, Due.NUMBER, 1, 0);
        due("a last ZERO", 1, Due.NUMBER, 1, 0, Due.ZERO, 0, 0);
        due("a last GO", -1, Due.GO, 0, 0);
        due("a last ZERO that no way meets", -1, Due.GO, 0, 0, Due.ZERO, 0, 0);
        due("back with another height", 1, Due.NUMBER, 1, 0, Due.GO, 0, 0);
        due("back with the same height", -1, Due.NUMBER, 1, 0, Due.DROP, 0, 0, Due.GO, 0, 0);
        due("ZERO to itself", 1, Due.NUMBER, 1, 0, Due.ZERO, 1, 0, Due.NUMBER, 1, 0, Due.RETURN, 0, 0);
        due("RETURN with more below", -1, Due.NUMBER, 1, 0, Due.TWICE, 0, 0, Due.RETURN, 0, 0);
        due("meeting with another height", 3, Due.NUMBER, 1, 0, Due.ZERO, 4, 0, Due.NUMBER, 1, 0, Due.TWICE, 0, 0,
                Due.NUMBER, 2, 0, Due.RETURN, 0, 0);
    }

    private static void order() {
        due("a number out of bounds before a wrong way", 2, Due.DROP, 0, 0, Due.NUMBER, 1, 0, Due.LOAD, 8, 0,
                Due.STORE, 9, 0);
        // The ways go 0, 1, 4, 2 (the least one that waits), where DROP is wrong; not on to 5 first.
        due("from the least place", 2, Due.NUMBER, 0, 0, Due.ZERO, 4, 0, Due.DROP, 0, 0, Due.RETURN, 0, 0,
                Due.DROP, 0, 0, Due.RETURN, 0, 0);
        // GO 4 meets 4 first, from which 1 is met: then 1 is gone from before 5.
        due("back to a lesser place", 1, Due.GO, 4, 0, Due.DROP, 0, 0, Due.RETURN, 0, 0, Due.RETURN, 0, 0,
                Due.NUMBER, 0, 0, Due.ZERO, 1, 0, Due.DROP, 0, 0);
        FeatureDesugarer x = new FeatureDesugarer();
        x.function(0);
        x.function(0);
        Due.write(x, 0, Due.NUMBER, 1, 0, Due.RETURN, 0, 0);
        Due.answer("an empty second function", x.check(), 64);
        x.code(1, Due.CALL, 2, 0);
        Due.answer("a function that there is not yet", x.check(), 64);
        x.code(1, Due.RETURN, 0, 0);
        x.function(0);
        Due.answer("it is there, but empty", x.check(), 128);
        Due.write(x, 2, Due.JOIN, 0, 0, Due.RETURN, 0, 0);
        Due.answer("a recipe that there is not yet", x.check(), 128);
        Due.recipe(x, "x");
        Due.answer("all are right", x.check(), -1);
        lastPlace();
    }

    private static void lastPlace() {
        FeatureDesugarer x = new FeatureDesugarer();
        for (int f = 0; f < 12; f++) {
            x.function(0);
        }
        for (int f = 0; f < 11; f++) {
            x.code(f, Due.GO, 0, 0);
        }
        for (int k = 0; k < 39; k++) {
            x.code(11, Due.NUMBER, 0, 0);
        }
        x.code(11, Due.LOAD, 8, 0);
        Due.answer("the last place of all", x.check(), 64 * 11 + 39);
    }
}
