/** Promise 9: the instructions of the plainer code. */
public final class PlainTest {
    public static void main(String[] args) {
        bounds();
        groups();
        sharedWords();
        movedPlaces();
        Due.end();
    }

    private static void bounds() {
        FeatureDesugarer x = new FeatureDesugarer();
        Due.function(x, 0, Due.NUMBER, 0, 0, Due.RETURN, 0, 0);
        Due.state("plain(0, 0, 0)", () -> x.plain(0, 0, 0));
        Due.argument("plain(1, 0, 0)", () -> x.plain(1, 0, 0));
        Due.argument("plain(0, -1, 0)", () -> x.plain(0, -1, 0));
        Due.argument("plain(0, 0, 3)", () -> x.plain(0, 0, 3));
        x.lower();
        Due.argument("plain(-1, 0, 0)", () -> x.plain(-1, 0, 0));
        Due.argument("plain(1, 0, 0)", () -> x.plain(1, 0, 0));
        Due.argument("plain(0, -1, 0)", () -> x.plain(0, -1, 0));
        Due.argument("plain(0, 2, 0)", () -> x.plain(0, 2, 0));
        Due.argument("plain(0, 0, -1)", () -> x.plain(0, 0, -1));
        Due.argument("plain(0, 0, 3)", () -> x.plain(0, 0, 3));
        Due.text("plain", Due.plain(x, 0), "0 0 0; 11 0 0");
    }

    /** The plainer code of an instruction behind three LOADs, in front of a RETURN. */
    private static void due(String what, int word, int a, int b, String want) {
        FeatureDesugarer x = new FeatureDesugarer();
        Due.recipe(x, "ab");
        Due.recipe(x, "_a_bcd_");
        Due.recipe(x, "x_yz");
        Due.function(x, 3, Due.FUNCTION, 0, 0, Due.RETURN, 0, 0);
        int f = Due.function(x, 0, Due.LOAD, 0, 0, Due.LOAD, 1, 0, Due.LOAD, 2, 0, word, a, b, Due.RETURN, 0, 0);
        x.lower();
        Due.text(what, Due.plain(x, f), "1 0 0; 1 1 0; 1 2 0; " + want + "; 11 0 0");
        Due.text(what + ", the function before", Due.plain(x, 0), "20 0 0; 11 0 0");
    }

    private static void groups() {
        due("FUNCTION 0 0", Due.FUNCTION, 0, 0, "20 1 0");
        due("FUNCTION 0 1", Due.FUNCTION, 0, 1, "20 1 0; 2 8 0; 2 9 0; 1 8 0; 1 9 0; 21 0 0");
        due("FUNCTION 0 2", Due.FUNCTION, 0, 2,
                "20 1 0; 2 8 0; 2 10 0; 2 9 0; 1 8 0; 1 9 0; 21 0 0; 1 10 0; 21 1 0");
        due("FUNCTION 0 3", Due.FUNCTION, 0, 3,
                "20 1 0; 2 8 0; 2 11 0; 2 10 0; 2 9 0; 1 8 0; 1 9 0; 21 0 0; 1 10 0; 21 1 0; 1 11 0; 21 2 0");
        due("APPLY 0", Due.APPLY, 0, 0, "22 0 0");
        due("APPLY 2", Due.APPLY, 2, 9, "22 2 0");
        due("JOIN ab", Due.JOIN, 0, 0, "24 0 0; 25 0 2");
        due("JOIN _a_bcd_", Due.JOIN, 1, 0,
                "2 10 0; 2 9 0; 2 8 0; 24 0 0; 1 8 0; 26 0 0; 25 2 1; 1 9 0; 26 0 0; 25 3 3; 1 10 0; 26 0 0");
        due("JOIN x_yz", Due.JOIN, 2, 9, "2 8 0; 24 0 0; 25 6 1; 1 8 0; 26 0 0; 25 7 2");
    }

    private static void sharedWords() {
        due("NUMBER", Due.NUMBER, Integer.MIN_VALUE, 7, "0 -2147483648 0");
        due("LOAD", Due.LOAD, 7, 7, "1 7 0");
        due("STORE", Due.STORE, 6, 7, "2 6 0");
        due("ADD", Due.ADD, 0, 7, "3 0 0");
        due("LESS", Due.LESS, 0, 0, "4 0 0");
        due("TIMES", Due.TIMES, 0, 0, "5 0 0");
        due("TWICE", Due.TWICE, 0, 0, "6 0 0");
        due("DROP", Due.DROP, 0, 0, "7 0 0");
        due("GO", Due.GO, 4, 7, "8 4 0");
        due("ZERO", Due.ZERO, 4, 7, "9 4 0");
        due("CALL", Due.CALL, 0, 7, "10 0 0");
        due("SAY", Due.SAY, 0, 0, "12 0 0");
        // Every instruction has a number a, and is lowered as it is.
        due("ADD with a number", Due.ADD, 5, 0, "3 5 0");
    }

    private static void movedPlaces() {
        FeatureDesugarer x = new FeatureDesugarer();
        Due.recipe(x, "a_");
        Due.function(x, 1, Due.GO, 4, 0, Due.FUNCTION, 0, 1, Due.JOIN, 0, 0, Due.RETURN, 0, 0, Due.LOAD, 0, 0,
                Due.ZERO, 8, 0, Due.LOAD, 0, 0, Due.GO, 2, 0, Due.LOAD, 0, 0, Due.GO, 1, 0, Due.GO, 10, 0);
        Due.answer("lower()", x.lower(), 1 + 6 + 5 + 8);
        Due.text("moved places", Due.plain(x, 0), "8 13 0; 20 0 0; 2 8 0; 2 9 0; 1 8 0; 1 9 0; 21 0 0; "
                + "2 8 0; 24 0 0; 25 0 1; 1 8 0; 26 0 0; 11 0 0; 1 0 0; 9 17 0; 1 0 0; 8 7 0; 1 0 0; 8 1 0; 8 19 0");
    }
}
