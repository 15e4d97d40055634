/** The boundary cases of the plainer code, sentence by sentence. */
public final class PlainerBoundaryTest {
    public static void main(String[] args) {
        madeIfAllAreRight();
        zeroToTwelveAsTheyAre();
        classesByFunctionsAndPlaces();
        methods();
        functionGroups();
        applyGroups();
        joinGroups();
        letterRuns();
        placesMoved();
        greatestHeights();
        table();
        longestCode();
        mostClasses();
        Due.end();
    }

    private static void madeIfAllAreRight() {
        Due.sentence("THE PLAINER CODE, made by lower() if all functions are right");
        FeatureDesugarer x = new FeatureDesugarer();
        Due.answer("no functions: lower()", x.lower(), 0);
        Due.answer("no functions: count(2)", x.count(2), 0);
        for (int f = 0; f < 12; f++) {
            x.function(0);
            Due.answer("an empty one behind " + f + ": lower()", x.lower(), -1);
            Due.state("an empty one behind " + f + ": count(2)", () -> x.count(2));
            Due.more(x, f, "CALL 0; RETURN");
            Due.answer(f + 1 + " right ones: lower()", x.lower(), 2 * f + 2);
        }
        Due.sentence("NONE if one is not right");
        FeatureDesugarer y = new FeatureDesugarer();
        Due.written(y, 0, "DROP; GO 0");
        Due.written(y, 0, "GO 0");
        Due.refusedArgument("no such place", y, () -> y.plain(0, -1, 0));
        String before = Due.whole(y);
        Due.answer("the first is wrong: lower()", y.lower(), FeatureDesugarer.NONE);
        Due.text("all that can be asked behind it", Due.whole(y), before);
    }

    /** The plainer code of one instruction between LOAD 0 * height and RETURN; function 1 has two parameters. */
    private static void group(int height, String instruction, String want) {
        FeatureDesugarer x = new FeatureDesugarer();
        Due.recipe(x, "ab");
        Due.written(x, 0, (height > 0 ? "LOAD 0 * " + height + "; " : "") + instruction + "; LOAD 0; RETURN");
        Due.written(x, 2, "NUMBER 1; RETURN");
        x.lower();
        String text = "1 0 0; ".repeat(height) + want + "; 1 0 0; 11 0 0";
        Due.text(instruction, Due.plain(x, 0), text);
    }

    private static void zeroToTwelveAsTheyAre() {
        Due.sentence("words 0 to 12 as they are");
        group(0, "NUMBER -2147483648", "0 -2147483648 0");
        group(0, "NUMBER 2147483647", "0 2147483647 0");
        group(0, "NUMBER 0", "0 0 0");
        group(0, "LOAD 7", "1 7 0");
        group(1, "STORE 7", "2 7 0");
        group(1, "STORE 0", "2 0 0");
        group(2, "ADD", "3 0 0");
        group(2, "LESS", "4 0 0");
        group(2, "TIMES", "5 0 0");
        group(1, "TWICE", "6 0 0");
        group(1, "DROP", "7 0 0");
        group(0, "GO 1", "8 1 0");
        group(1, "ZERO 2", "9 2 0");
        group(0, "CALL 0", "10 0 0");
        group(2, "CALL 1", "10 1 0");
        group(1, "RETURN", "11 0 0");
        group(1, "SAY", "12 0 0");
        Due.sentence("An INSTRUCTION is a WORD with a number a and, of some, a number b");
        int[] words = {Due.ADD, Due.LESS, Due.TIMES, Due.TWICE, Due.DROP, Due.RETURN, Due.SAY};
        for (int word : words) {
            for (int a : new int[] {Integer.MIN_VALUE, -1, 5, Integer.MAX_VALUE}) {
                FeatureDesugarer x = new FeatureDesugarer();
                Due.written(x, 0, "LOAD 0 * 3");
                x.code(0, word, a, 0);
                Due.more(x, 0, "LOAD 0; RETURN");
                x.lower();
                Due.answer("word " + word + " with " + a + ": plain(0, 3, 1)", x.plain(0, 3, 1), a);
            }
        }
        Due.sentence("2 b (0 if it has none)");
        group(0, "NUMBER 3 9", "0 3 0");
        group(0, "LOAD 3 9", "1 3 0");
        group(1, "STORE 3 9", "2 3 0");
        group(0, "GO 1 9", "8 1 0");
        group(0, "CALL 0 9", "10 0 0");
        group(1, "APPLY 0 9", "22 0 0");
        group(0, "JOIN 0 9", "24 0 0; 25 0 2");
        group(0, "FUNCTION 1 0", "20 0 0");
    }

    private static void classesByFunctionsAndPlaces() {
        Due.sentence("CLASSES are made for each FUNCTION instruction, by functions and places, 0, 1, ..");
        FeatureDesugarer x = new FeatureDesugarer();
        Due.written(x, 3, "FUNCTION 2 0; RETURN; FUNCTION 0 1; FUNCTION 0 1");
        Due.written(x, 0, "GO 0");
        Due.written(x, 2, "LOAD 0; LOAD 1; FUNCTION 2 2; RETURN");
        // The same FUNCTION twice makes two classes, and so do those that no way meets.
        x.lower();
        Due.answer("count(2)", x.count(2), 4);
        int[][] want = {{0, 2}, {1, 0}, {1, 0}, {2, 2}};
        int[] places = {0, 2, 8};
        for (int cls = 0; cls < 4; cls++) {
            Due.answer("made(" + cls + ", 0)", x.made(cls, 0), want[cls][0]);
            Due.answer("made(" + cls + ", 1)", x.made(cls, 1), want[cls][1]);
        }
        for (int cls = 0; cls < 3; cls++) {
            Due.answer("NEW's word", x.plain(0, places[cls], 0), Due.NEW);
            Due.answer("NEW's class", x.plain(0, places[cls], 1), cls);
        }
        Due.answer("NEW's class in the last function", x.plain(2, 2, 1), 3);
        Due.argument("made(4, 0)", () -> x.made(4, 0));
        FeatureDesugarer y = new FeatureDesugarer();
        Due.written(y, 0, "GO 0");
        y.lower();
        Due.answer("no FUNCTION: count(2)", y.count(2), 0);
        Due.argument("no FUNCTION: made(0, 0)", () -> y.made(0, 0));
    }

    private static void methods() {
        Due.sentence("a METHOD: GET 0 .. GET b - 1, then LOAD 1, 2, .. for the other parameters, CALL a, RETURN");
        for (int parameters = 0; parameters <= 3; parameters++) {
            for (int b = 0; b <= parameters; b++) {
                FeatureDesugarer x = new FeatureDesugarer();
                Due.written(x, 0, "GO 0");
                Due.written(x, parameters, "LOAD 0 * 4; FUNCTION 1 " + b + "; RETURN");
                x.lower();
                Due.answer("made(0, 0)", x.made(0, 0), b);
                Due.answer("made(0, 1)", x.made(0, 1), 1);
                Due.answer(b + " of " + parameters + ": made(0, 2)", x.made(0, 2), parameters + 2);
            }
        }
    }

    private static void functionGroups() {
        Due.sentence("A FUNCTION a b becomes NEW of its class, then, if b > 0, STORE t, and STORE t + b, .. t + 1, "
                + "LOAD t, and for each k LOAD t + 1 + k, PUT k; t is 8");
        group(0, "FUNCTION 0 0", "20 0 0");
        group(1, "FUNCTION 1 1", "20 0 0; 2 8 0; 2 9 0; 1 8 0; 1 9 0; 21 0 0");
        group(2, "FUNCTION 1 2", "20 0 0; 2 8 0; 2 10 0; 2 9 0; 1 8 0; 1 9 0; 21 0 0; 1 10 0; 21 1 0");
        FeatureDesugarer x = new FeatureDesugarer();
        Due.written(x, 3, "LOAD 0 * 3; FUNCTION 0 3; RETURN");
        x.lower();
        Due.text("FUNCTION 0 3", Due.plain(x, 0), "1 0 0; 1 0 0; 1 0 0; 20 0 0; 2 8 0; 2 11 0; 2 10 0; 2 9 0; 1 8 0; "
                + "1 9 0; 21 0 0; 1 10 0; 21 1 0; 1 11 0; 21 2 0; 11 0 0");
    }

    private static void applyGroups() {
        Due.sentence("APPLY a becomes INVOKE a");
        for (int a = 0; a <= 3; a++) {
            group(a + 1, "APPLY " + a, "22 " + a + " 0");
        }
    }

    /** The plainer code of JOIN by the second of two recipes; the first one has two letters. */
    private static void join(String recipe, String want) {
        FeatureDesugarer x = new FeatureDesugarer();
        Due.recipe(x, "x_y");
        Due.recipe(x, recipe);
        int holes = recipe.replaceAll("[a-z]", "").length();
        Due.written(x, 0, (holes > 0 ? "NUMBER 1 * " + holes + "; " : "") + "JOIN 1; RETURN");
        x.lower();
        Due.text("JOIN by " + recipe, Due.plain(x, 0), "0 1 0; ".repeat(holes) + want + "; 11 0 0");
    }

    private static void joinGroups() {
        Due.sentence("JOIN a with h holes becomes STORE t + h - 1, .. STORE t, BEGIN, and for each run of letters "
                + "CHARACTERS, for each hole (the k-th) LOAD t + k, APPEND");
        join("a", "24 0 0; 25 2 1");
        join("abcdefghijkl", "24 0 0; 25 2 12");
        join("_", "2 8 0; 24 0 0; 1 8 0; 26 0 0");
        join("__", "2 9 0; 2 8 0; 24 0 0; 1 8 0; 26 0 0; 1 9 0; 26 0 0");
        StringBuilder twelve = new StringBuilder();
        for (int k = 11; k >= 0; k--) {
            twelve.append("2 ").append(8 + k).append(" 0; ");
        }
        twelve.append("24 0 0");
        for (int k = 0; k < 12; k++) {
            twelve.append("; 1 ").append(8 + k).append(" 0; 26 0 0");
        }
        join("____________", twelve.toString());
    }

    private static void letterRuns() {
        Due.sentence("for each run of letters CHARACTERS");
        join("a_", "2 8 0; 24 0 0; 25 2 1; 1 8 0; 26 0 0");
        join("_a", "2 8 0; 24 0 0; 1 8 0; 26 0 0; 25 2 1");
        join("_a_", "2 9 0; 2 8 0; 24 0 0; 1 8 0; 26 0 0; 25 2 1; 1 9 0; 26 0 0");
        join("ab_cde", "2 8 0; 24 0 0; 25 2 2; 1 8 0; 26 0 0; 25 4 3");
        join("a__b", "2 9 0; 2 8 0; 24 0 0; 25 2 1; 1 8 0; 26 0 0; 1 9 0; 26 0 0; 25 3 1");
        join("abcde_fghijk", "2 8 0; 24 0 0; 25 2 5; 1 8 0; 26 0 0; 25 7 6");
    }

    private static void placesMoved() {
        Due.sentence("A place becomes that of the first instruction of its group");
        // To the first one, to groups, behind them, back, on, and to itself; groups begin at 1 and 10.
        FeatureDesugarer y = new FeatureDesugarer();
        Due.recipe(y, "__");
        Due.written(y, 2, "GO 4; FUNCTION 0 2; JOIN 0; RETURN; NUMBER 0; RETURN; GO 0; GO 1; GO 2; GO 3; GO 8; ZERO 12; "
                + "ZERO 3; GO 13");
        Due.answer("lower()", y.lower(), 28);
        int[] words = {8, 8, 8, 8, 8, 9, 9, 8};
        int[] places = {0, 1, 10, 17, 22, 26, 17, 27};
        Due.answer("the first one", y.plain(0, 0, 1), 18);
        for (int k = 0; k < places.length; k++) {
            Due.answer("plain(0, " + (20 + k) + ", 0)", y.plain(0, 20 + k, 0), words[k]);
            Due.answer("plain(0, " + (20 + k) + ", 1)", y.plain(0, 20 + k, 1), places[k]);
        }
        // A function's places are its own, whatever stands in front of it.
        FeatureDesugarer z = new FeatureDesugarer();
        Due.written(z, 1, "LOAD 0; FUNCTION 0 1; RETURN");
        Due.written(z, 1, "GO 1; LOAD 0; FUNCTION 0 1; GO 4; RETURN");
        z.lower();
        Due.answer("of another function", z.plain(1, 0, 1), 1);
        Due.answer("of another function, behind a group", z.plain(1, 8, 1), 9);
    }

    /** The greatest heights of the last function, behind one with one parameter. */
    private static void heights(String instructions, int first, int plainer) {
        FeatureDesugarer x = new FeatureDesugarer();
        Due.recipe(x, "ab");
        Due.recipe(x, "_a");
        Due.recipe(x, "____________");
        Due.written(x, 1, "LOAD 0; RETURN");
        int f = Due.written(x, 3, instructions);
        x.lower();
        Due.answer(instructions + ": size(1, 2)", x.size(f, 2), first);
        Due.answer(instructions + ": size(1, 3)", x.size(f, 3), plainer);
    }

    private static void greatestHeights() {
        Due.sentence("A function's GREATEST HEIGHT is that of its stack behind any instruction that a way meets");
        heights("GO 0", 0, 0);
        heights("GO 0; NUMBER 1 * 3", 0, 0);
        heights("LOAD 0; RETURN", 1, 1);
        heights("LOAD 0 * 12; RETURN", 12, 12);
        heights("LOAD 0 * 12; FUNCTION 0 1; RETURN", 12, 13);
        heights("LOAD 0 * 12; FUNCTION 1 3; RETURN", 12, 13);
        heights("LOAD 0 * 11; FUNCTION 0 0; RETURN", 12, 12);
        heights("LOAD 0 * 12; JOIN 1; RETURN", 12, 13);
        heights("LOAD 0 * 12; JOIN 2; RETURN", 12, 12);
        heights("LOAD 0 * 11; JOIN 0; RETURN", 12, 12);
        heights("LOAD 0; JOIN 1; RETURN", 1, 2);
        heights("LOAD 0; FUNCTION 0 1; RETURN", 1, 2);
        heights("FUNCTION 0 0; LOAD 0; APPLY 1; RETURN", 2, 2);
        heights("LOAD 0; ZERO 3; GO 2; LOAD 0 * 5; RETURN", 5, 5);
        heights("LOAD 0; RETURN; LOAD 0 * 9; JOIN 1", 1, 1);
    }

    private static void table() {
        Due.sentence("THE TABLE of characters has all recipes' letters, recipe by recipe, holes left out");
        String[] recipes = {"_", "z", "_a_", "____________", "bcdefghijklm", "_y_x_w_v_u_t", "za", "_q"};
        FeatureDesugarer x = new FeatureDesugarer();
        x.lower();
        Due.answer("no recipes: count(3)", x.count(3), 0);
        Due.argument("no recipes: character(0)", () -> x.character(0));
        StringBuilder letters = new StringBuilder();
        for (String recipe : recipes) {
            Due.recipe(x, recipe);
            x.lower();
            letters.append(recipe.replace("_", ""));
            Due.answer("count(3)", x.count(3), letters.length());
            Due.argument("one behind the last", () -> x.character(letters.length()));
        }
        for (int k = 0; k < letters.length(); k++) {
            Due.answer("character(" + k + ")", x.character(k), letters.charAt(k) - 'a');
        }
        FeatureDesugarer y = new FeatureDesugarer();
        for (int k = 0; k < 8; k++) {
            Due.recipe(y, "abcdefghijkz");
        }
        y.lower();
        Due.answer("a full table: count(3)", y.count(3), 96);
        Due.answer("a full table: character(0)", y.character(0), 0);
        Due.answer("a full table: character(95)", y.character(95), 25);
        Due.refusedArgument("a full table: character(96)", y, () -> y.character(96));
    }

    private static void longestCode() {
        Due.sentence("how many instructions all functions have in it");
        FeatureDesugarer x = new FeatureDesugarer();
        Due.recipe(x, "____________");
        for (int f = 0; f < 12; f++) {
            Due.written(x, 0, "GO 0; JOIN 0 * 39");
        }
        Due.answer("lower()", x.lower(), 12 * (1 + 39 * 37));
        Due.answer("size(11, 1)", x.size(11, 1), 1 + 39 * 37);
        Due.answer("plain(11, 1443, 0)", x.plain(11, 1443, 0), Due.APPEND);
        Due.argument("plain(11, 1444, 0)", () -> x.plain(11, 1444, 0));
        Due.answer("lower() again", x.lower(), 12 * (1 + 39 * 37));
    }

    private static void mostClasses() {
        Due.sentence("CLASSES are made for each FUNCTION instruction");
        FeatureDesugarer x = new FeatureDesugarer();
        for (int f = 0; f < 12; f++) {
            x.function(3);
        }
        for (int f = 0; f < 12; f++) {
            Due.more(x, f, "GO 0; FUNCTION " + (11 - f) + " 3 * 39");
        }
        Due.answer("lower()", x.lower(), 12 * (1 + 39 * 12));
        Due.answer("count(2)", x.count(2), 468);
        Due.answer("made(467, 0)", x.made(467, 0), 3);
        Due.answer("made(467, 1)", x.made(467, 1), 0);
        Due.answer("made(467, 2)", x.made(467, 2), 5);
        Due.answer("made(38, 1)", x.made(38, 1), 11);
        Due.answer("made(39, 1)", x.made(39, 1), 10);
        Due.argument("made(468, 0)", () -> x.made(468, 0));
        Due.answer("the last NEW's class", x.plain(11, 1 + 38 * 12, 1), 467);
    }
}
