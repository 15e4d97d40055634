/** The boundary cases of RIGHT and of check(), sentence by sentence. */
public final class RightBoundaryTest {
    private static final int LEAST = Integer.MIN_VALUE;
    private static final int MOST = Integer.MAX_VALUE;

    public static void main(String[] args) {
        hasInstructions();
        functionsThatThereAre();
        recipesThatThereAre();
        instructionsThatThereAre();
        valuesOfFunction();
        nothingOnTheStackAtFirst();
        popsMoreThanThereIs();
        heightAboveTwelve();
        beyondTheLastOne();
        anotherHeight();
        unmetOnes();
        sixtyFourTimes();
        leastNumberOutOfBounds();
        numbersBeforeWays();
        fromTheLeastPlace();
        noneIfAllAreRight();
        Due.end();
    }

    /** What check() answers of function 1, behind a right one with 2 parameters, and lower() with it. */
    private static void due(String instructions, int want) {
        FeatureDesugarer x = new FeatureDesugarer();
        Due.recipe(x, "a_b_");
        Due.written(x, 2, "LOAD 0; RETURN");
        int f = x.function(1);
        if (!instructions.isEmpty()) {
            Due.more(x, f, instructions);
        }
        int length = x.size(f, 0);
        Due.answer(instructions + ": check()", x.check(), want == -1 ? -1 : 64 + want);
        if (want == -1) {
            Due.answer(instructions + ": lower() is not NONE", x.lower() >= length + 2 ? 1 : 0, 1);
        } else {
            Due.answer(instructions + ": lower()", x.lower(), -1);
            Due.state(instructions + ": count(2)", () -> x.count(2));
        }
    }

    private static void hasInstructions() {
        Due.sentence("RIGHT is a function if it has instructions");
        due("", 0);
        due("GO 0", -1);
        Due.sentence("A function without instructions is wrong at 0");
        FeatureDesugarer x = new FeatureDesugarer();
        for (int f = 0; f < 12; f++) {
            x.function(f % 4);
            Due.answer("check()", x.check(), 64 * f);
            Due.answer("lower()", x.lower(), -1);
            x.code(f, Due.GO, 0, 0);
            Due.answer("check()", x.check(), -1);
        }
    }

    private static void functionsThatThereAre() {
        Due.sentence("their numbers are in bounds (functions");
        for (String word : new String[] {"CALL ", "FUNCTION "}) {
            due("LOAD 0; LOAD 0; " + word + 0 + "; RETURN", -1);
            due("LOAD 0; LOAD 0; " + word + 1 + "; RETURN", -1);
            for (int a : new int[] {LEAST, -1, 2, 11, 12, MOST}) {
                due("LOAD 0; LOAD 0; " + word + a + "; RETURN", 2);
            }
        }
        FeatureDesugarer x = new FeatureDesugarer();
        Due.written(x, 0, "CALL 11; FUNCTION 11; DROP; RETURN");
        for (int f = 1; f < 12; f++) {
            Due.answer("function 11 of " + f + ": check()", x.check(), 0);
            Due.written(x, 0, "NUMBER 1; RETURN");
        }
        Due.answer("function 11 of 12: check()", x.check(), -1);
    }

    private static void recipesThatThereAre() {
        Due.sentence("their numbers are in bounds (.. recipes");
        due("LOAD 0; LOAD 0; JOIN 0; RETURN", -1);
        for (int a : new int[] {LEAST, -1, 1, 7, 8, MOST}) {
            due("LOAD 0; LOAD 0; JOIN " + a + "; RETURN", 2);
        }
    }

    private static void instructionsThatThereAre() {
        Due.sentence("their numbers are in bounds (.. instructions that there are");
        due("GO 2; GO 0; GO 1", -1);
        due("LOAD 0; ZERO 0; LOAD 0; ZERO 4; GO 4", -1);
        for (int a : new int[] {LEAST, -1, 3, 39, 40, MOST}) {
            due("GO 1; GO 2; GO " + a, 2);
            due("NUMBER 0; ZERO " + a + "; GO 2", 1);
        }
        FeatureDesugarer x = new FeatureDesugarer();
        Due.written(x, 0, "GO 39");
        for (int length = 1; length < 40; length++) {
            Due.answer("GO 39 of " + length + ": check()", x.check(), 0);
            x.code(0, Due.GO, 0, 0);
        }
        Due.answer("GO 39 of 40: check()", x.check(), -1);
    }

    private static void valuesOfFunction() {
        Due.sentence("b 0 .. the function's parameters");
        for (int parameters = 0; parameters <= 3; parameters++) {
            for (int b : new int[] {LEAST, -1, 0, 1, 2, 3, 4, MOST}) {
                FeatureDesugarer x = new FeatureDesugarer();
                Due.written(x, 3, "LOAD 0 * 5; FUNCTION 1 " + b + "; RETURN");
                Due.written(x, parameters, "NUMBER 0; RETURN");
                boolean right = b >= 0 && b <= parameters;
                Due.answer(b + " of " + parameters + ": check()", x.check(), right ? -1 : 5);
            }
        }
        Due.sentence("An INSTRUCTION is a WORD with a number a and, of some, a number b");
        for (int b : new int[] {LEAST, -1, 4, MOST}) {
            due("LOAD 0 " + b + "; STORE 1 " + b + "; GO 3 " + b + "; NUMBER 0 " + b + "; ZERO 5 " + b + "; LOAD 0; "
                    + "TWICE 0 " + b + "; CALL 0 " + b + "; TWICE; JOIN 0 " + b + "; TWICE; APPLY 1 " + b + "; RETURN 0 "
                    + b, -1);
        }
        for (int a : new int[] {LEAST, -1, 8, 40, MOST}) {
            due("NUMBER " + a + "; TWICE " + a + "; ADD " + a + "; TWICE; LESS " + a + "; TWICE; TIMES " + a
                    + "; TWICE; DROP " + a + "; TWICE; SAY " + a + "; RETURN " + a, -1);
        }
    }

    private static void nothingOnTheStackAtFirst() {
        Due.sentence("going from the first instruction with nothing on the stack");
        due("RETURN", 0);
        due("DROP; GO 0", 0);
        due("ZERO 1; GO 0", 0);
        due("TWICE; RETURN", 0);
    }

    private static void popsMoreThanThereIs() {
        Due.sentence("an instruction is WRONG if it pops more than there is");
        String[] words = {"STORE 0", "ADD", "LESS", "TIMES", "TWICE", "DROP", "ZERO 0", "CALL 0", "CALL 1", "RETURN",
            "SAY", "FUNCTION 0 1", "FUNCTION 0 2", "FUNCTION 1 1", "APPLY 0", "APPLY 1", "APPLY 2", "APPLY 3", "JOIN 0"};
        int[] pops = {1, 2, 2, 2, 1, 1, 1, 2, 1, 1, 1, 1, 2, 1, 1, 2, 3, 4, 2};
        for (int k = 0; k < words.length; k++) {
            for (int height = 0; height <= pops[k]; height++) {
                String front = height == 0 ? "" : "LOAD 0 * " + height + "; ";
                String word = words[k].equals("ZERO 0") ? "ZERO " + (height + 1) : words[k];
                due(front + word + "; NUMBER 1; RETURN", height < pops[k] ? height : -1);
            }
        }
        for (String word : new String[] {"NUMBER 1", "LOAD 0", "GO 1", "FUNCTION 0 0"}) {
            due(word + "; NUMBER 1; RETURN", -1);
        }
    }

    private static void heightAboveTwelve() {
        Due.sentence("comes to a HEIGHT of the stack above 12");
        due("NUMBER 1 * 12; GO 13; RETURN", -1);
        due("NUMBER 1 * 13; GO 14; RETURN", 12);
        for (String word : new String[] {"NUMBER 1", "LOAD 0", "TWICE", "CALL 0", "FUNCTION 0 0", "JOIN 0"}) {
            for (int height = 11; height <= 12; height++) {
                FeatureDesugarer x = new FeatureDesugarer();
                Due.recipe(x, "none");
                Due.written(x, 0, "NUMBER 1; RETURN");
                Due.written(x, 0, "NUMBER 1 * " + height + "; " + word + "; RETURN");
                Due.answer(word + " behind " + height + ": check()", x.check(), height == 11 ? -1 : 64 + 12);
            }
        }
        // What pops and pushes may stand at twelve, though the plainer code comes higher inside a group.
        due("LOAD 0 * 12; CALL 1; FUNCTION 1 1; APPLY 0; STORE 0; LOAD 0; JOIN 0; RETURN", -1);
    }

    private static void beyondTheLastOne() {
        Due.sentence("goes on beyond the last one");
        for (String last : new String[] {"NUMBER 1", "LOAD 0", "TWICE", "DROP", "STORE 0", "SAY", "ZERO 0", "CALL 1",
            "FUNCTION 0 0", "APPLY 0", "ADD", "JOIN 0"}) {
            due("LOAD 0; LOAD 0; GO 3; " + last, 3);
        }
        due("LOAD 0; RETURN", -1);
        due("LOAD 0; DROP; GO 0", -1);
        due("NUMBER 1; ZERO 0", 1);
    }

    private static void anotherHeight() {
        Due.sentence("or to one that was met with another height");
        due("LOAD 0; GO 0", 1);
        due("GO 2; RETURN; LOAD 0; ZERO 4; LOAD 0; GO 1", -1);
        due("LOAD 0; LOAD 0; ZERO 4; DROP; LOAD 0; RETURN", 3);
        due("LOAD 0; LOAD 0; ZERO 4; NUMBER 0; RETURN", 3);
        due("LOAD 0; LOAD 0; ZERO 5; DROP; NUMBER 5; RETURN", -1);
        due("LOAD 0; ZERO 1; GO 2", 1);
        due("LOAD 0; TWICE; ZERO 1; RETURN", -1);
        // One that is higher is as wrong as one that is lower.
        due("LOAD 0; ZERO 3; LOAD 0; GO 3", 2);
        due("LOAD 0; LOAD 0; ZERO 4; STORE 1; GO 4", 3);
    }

    private static void unmetOnes() {
        Due.sentence("Those that no way meets are asked for their numbers alone");
        due("LOAD 0; RETURN; ADD; DROP; RETURN; NUMBER 1", -1);
        due("GO 0; ZERO 0", -1);
        due("GO 0; NUMBER 1 * 20", -1);
        due("GO 0; NUMBER 1; GO 1", -1);
        due("LOAD 0; RETURN; ADD; LOAD 8; NUMBER 1", 3);
        due("GO 0; FUNCTION 0 3", 1);
        due("GO 0; APPLY 4", 1);
        due("GO 0; GO 2", 1);
        due("GO 0; CALL 2", 1);
        due("GO 0; JOIN 1", 1);
    }

    private static void sixtyFourTimes() {
        Due.sentence("64 times the first function that is not RIGHT, and the place that is wrong");
        for (int wrong = 0; wrong < 12; wrong++) {
            for (int place : new int[] {0, 1, 38, 39}) {
                FeatureDesugarer x = new FeatureDesugarer();
                for (int f = 0; f < 12; f++) {
                    x.function(0);
                    for (int k = 0; f == wrong && k < place; k++) {
                        x.code(f, Due.GO, 0, 0);
                    }
                    // The functions behind the first wrong one are wrong too.
                    x.code(f, f < wrong ? Due.GO : Due.LOAD, f < wrong ? 0 : 8, 0);
                }
                Due.answer("function " + wrong + ", place " + place, x.check(), 64 * wrong + place);
            }
        }
    }

    private static void leastNumberOutOfBounds() {
        Due.sentence("the least one with a number out of its bounds");
        due("GO 3; LOAD 8; STORE -1; LOAD 9; JOIN 5", 1);
        due("LOAD 0; RETURN; LOAD 7; APPLY 9; LOAD 8", 3);
    }

    private static void numbersBeforeWays() {
        Due.sentence("else the first that is WRONG");
        due("DROP; LOAD 0; RETURN; LOAD 8", 3);
        due("DROP; LOAD 0; RETURN; LOAD 7", 0);
        due("LOAD 0; LOAD 0; GO 99; ADD", 2);
    }

    private static void fromTheLeastPlace() {
        Due.sentence("always going on from the least place that was met and not gone from");
        // 1 meets 4 and 2, both wrong: 2 is the least.
        due("LOAD 0; ZERO 4; DROP; RETURN; DROP; RETURN", 2);
        // GO 3, from which 1 is met: 1 is gone from before 4, though 4 was met with it.
        due("GO 3; DROP; RETURN; NUMBER 0; ZERO 1; DROP; RETURN", 1);
        // 5 is met before 2, but 2 and 3 are gone from first; 3 meets 5 with another height.
        due("LOAD 0; ZERO 5; LOAD 0; GO 5; RETURN; LOAD 0; RETURN", 3);
        // Here 6, the greater one, meets 1 first, and 1 is gone from once alone.
        due("GO 5; LOAD 0; LOAD 0; ADD; RETURN; LOAD 0; ZERO 1; GO 1", -1);
        due("GO 5; LOAD 0; LOAD 0; ADD; RETURN; LOAD 0; ZERO 1; LOAD 0; GO 1", 8);
    }

    private static void noneIfAllAreRight() {
        Due.sentence("NONE: all are right");
        FeatureDesugarer x = new FeatureDesugarer();
        Due.answer("no functions: check()", x.check(), FeatureDesugarer.NONE);
        Due.written(x, 0, "GO 0");
        Due.answer("one: check()", x.check(), FeatureDesugarer.NONE);
        x.function(0);
        Due.answer("two, one of them empty: check()", x.check(), 64);
        Due.more(x, 1, "CALL 0; RETURN");
        Due.answer("two: check()", x.check(), FeatureDesugarer.NONE);
        x.lower();
        Due.answer("behind lower(): check()", x.check(), FeatureDesugarer.NONE);
        Due.answer("check() makes and unmakes nothing: count(2)", x.count(2), 0);
        x.function(3);
        Due.answer("another empty one: check()", x.check(), 128);
        Due.state("check() makes nothing: count(2)", () -> x.count(2));
    }
}
