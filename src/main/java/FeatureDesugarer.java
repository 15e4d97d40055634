import java.util.Arrays;

/**
 * Rewrites functions of a stack code with function values and joined texts to a plainer code with
 * objects of made classes and texts built piece by piece, and runs both codes.
 *
 * <p>All rows are made once and used again by every call, since all calls of one run share one room.
 */
public final class FeatureDesugarer {
    public static final int NONE = -1;

    private static final int MOST_FUNCTIONS = 12;
    private static final int MOST_PARAMETERS = 3;
    private static final int MOST_INSTRUCTIONS = 40;
    private static final int MOST_CLASSES = MOST_FUNCTIONS * MOST_INSTRUCTIONS;
    private static final int MOST_RECIPES = 8;
    private static final int MOST_IN_RECIPE = 12;
    private static final int MOST_HEIGHT = 12;
    private static final int MOST_OPEN_FUNCTIONS = 30;
    private static final int MOST_STEPS = 400;
    private static final int MOST_CHARACTERS = 200;
    /** Far above what 400 steps can take: a group has at most 37 instructions, a method five. */
    private static final int MOST_TURNS = 1000000;

    private static final int LOCALS = 8;
    /** The first local that the source code cannot reach: groups keep their values from here on. */
    private static final int SPARE = 8;
    private static final int PLAIN_LOCALS = SPARE + MOST_IN_RECIPE;
    /** NEW and LOAD inside a group may stand one higher than the source code's stack ever does. */
    private static final int PLAIN_HEIGHT = MOST_HEIGHT + 1;

    private static final int RECIPE_BITS = 60;
    private static final int DIGIT_BITS = 5;
    private static final int DIGIT_MASK = 31;
    private static final int HOLE_DIGIT = 27;
    private static final int CHECK_FACTOR = 64;

    private static final int NUMBER = 0;
    private static final int LOAD = 1;
    private static final int STORE = 2;
    private static final int ADD = 3;
    private static final int LESS = 4;
    private static final int TIMES = 5;
    private static final int TWICE = 6;
    private static final int DROP = 7;
    private static final int GO = 8;
    private static final int ZERO = 9;
    private static final int CALL = 10;
    private static final int RETURN = 11;
    private static final int SAY = 12;
    private static final int FUNCTION = 13;
    private static final int APPLY = 14;
    private static final int JOIN = 15;
    private static final int NEW = 20;
    private static final int PUT = 21;
    private static final int INVOKE = 22;
    private static final int GET = 23;
    private static final int BEGIN = 24;
    private static final int CHARACTERS = 25;
    private static final int APPEND = 26;

    private static final int KIND_NUMBER = 1;
    private static final int KIND_TEXT = 2;
    private static final int KIND_FUNCTION = 3;
    private static final long NO_VALUE = 0L;
    private static final long NUMBER_ZERO = (long) KIND_NUMBER << 32;

    private static final int FAULT_KIND = 1;
    private static final int FAULT_VALUES = 2;
    private static final int FAULT_DEPTH = 3;
    private static final int FAULT_STEPS = 4;
    private static final int FAULT_CHARACTERS = 5;

    private final Program program;
    private final Ways ways;
    private final PlainCode plainCode;
    private final Machine machine;

    public FeatureDesugarer() {
        program = new Program();
        ways = new Ways(program);
        plainCode = new PlainCode(program, ways);
        machine = new Machine(program, plainCode);
    }

    public int function(int parameters) throws IllegalArgumentException, IllegalStateException {
        if (parameters < 0 || parameters > MOST_PARAMETERS) {
            throw new IllegalArgumentException();
        }
        if (program.functionTotal() == MOST_FUNCTIONS) {
            throw new IllegalStateException();
        }
        plainCode.forget();
        return program.addFunction(parameters);
    }

    public int code(int function, int word, int a, int b) throws IllegalArgumentException, IllegalStateException {
        if (!program.hasFunction(function) || word < NUMBER || word > JOIN) {
            throw new IllegalArgumentException();
        }
        if (program.lengthOf(function) == MOST_INSTRUCTIONS) {
            throw new IllegalStateException();
        }
        plainCode.forget();
        return program.addInstruction(function, word, a, b);
    }

    public int recipe(long characters) throws IllegalArgumentException, IllegalStateException {
        if (!Recipes.isReadable(characters)) {
            throw new IllegalArgumentException();
        }
        if (program.recipes().total() == MOST_RECIPES) {
            throw new IllegalStateException();
        }
        plainCode.forget();
        return program.recipes().add(characters);
    }

    public int check() {
        for (int f = 0; f < program.functionTotal(); f++) {
            int place = ways.wrongPlace(f);
            if (place != NONE) {
                return CHECK_FACTOR * f + place;
            }
        }
        return NONE;
    }

    public int lower() {
        return check() == NONE ? plainCode.make() : NONE;
    }

    public int count(int what) throws IllegalArgumentException, IllegalStateException {
        if (what < 0 || what > 3) {
            throw new IllegalArgumentException();
        }
        if (what == 0) {
            return program.functionTotal();
        }
        if (what == 1) {
            return program.recipes().total();
        }
        if (!plainCode.isMade()) {
            throw new IllegalStateException();
        }
        return what == 2 ? plainCode.classTotal() : program.recipes().letterTotal();
    }

    public int size(int function, int what) throws IllegalArgumentException, IllegalStateException {
        if (!program.hasFunction(function) || what < 0 || what > 3) {
            throw new IllegalArgumentException();
        }
        if (what == 0) {
            return program.lengthOf(function);
        }
        if (!plainCode.isMade()) {
            throw new IllegalStateException();
        }
        if (what == 1) {
            return plainCode.lengthOf(function);
        }
        return what == 2 ? plainCode.sourceHeightOf(function) : plainCode.plainHeightOf(function);
    }

    public int plain(int function, int i, int what) throws IllegalArgumentException, IllegalStateException {
        if (!program.hasFunction(function) || i < 0 || what < 0 || what > 2) {
            throw new IllegalArgumentException();
        }
        if (!plainCode.isMade()) {
            throw new IllegalStateException();
        }
        if (i >= plainCode.lengthOf(function)) {
            throw new IllegalArgumentException();
        }
        if (what == 0) {
            return plainCode.wordAt(function, i);
        }
        return what == 1 ? plainCode.firstNumberAt(function, i) : plainCode.secondNumberAt(function, i);
    }

    public int made(int cls, int what) throws IllegalArgumentException, IllegalStateException {
        if (cls < 0 || what < 0 || what > 2) {
            throw new IllegalArgumentException();
        }
        if (!plainCode.isMade()) {
            throw new IllegalStateException();
        }
        if (cls >= plainCode.classTotal()) {
            throw new IllegalArgumentException();
        }
        if (what == 0) {
            return plainCode.valuesOfClass(cls);
        }
        return what == 1 ? plainCode.functionOfClass(cls) : plainCode.lengthOf(plainCode.methodOfClass(cls));
    }

    public int character(int k) throws IllegalArgumentException, IllegalStateException {
        if (k < 0) {
            throw new IllegalArgumentException();
        }
        if (!plainCode.isMade()) {
            throw new IllegalStateException();
        }
        if (k >= program.recipes().letterTotal()) {
            throw new IllegalArgumentException();
        }
        return program.recipes().letterAt(k);
    }

    public int run(int function, int x, int y, int z, boolean plainer)
            throws IllegalArgumentException, IllegalStateException {
        if (!program.hasFunction(function)) {
            throw new IllegalArgumentException();
        }
        if (!plainCode.isMade()) {
            throw new IllegalStateException();
        }
        return machine.perform(function, x, y, z, plainer);
    }

    public int told(int what) throws IllegalArgumentException {
        switch (what) {
            case 0:
                return machine.outputLength();
            case 1:
                return machine.stepTotal();
            case 2:
                return machine.returnedNumber();
            case 3:
                return machine.returnedKind();
            default:
                throw new IllegalArgumentException();
        }
    }

    public int said(int k) throws IllegalArgumentException {
        if (k < 0 || k >= machine.outputLength()) {
            throw new IllegalArgumentException();
        }
        return machine.outputAt(k);
    }

    /** A value is one long, so that stacks and objects need no object for each value. */
    private static long valueOf(int kind, int content) {
        return ((long) kind << 32) | (content & 0xFFFFFFFFL);
    }

    private static int kindOf(long value) {
        return (int) (value >> 32);
    }

    private static int contentOf(long value) {
        return (int) value;
    }

    /** Instructions of units (functions, and in the plainer code methods too), as a machine reads them. */
    private interface Code {
        int wordAt(int unit, int place);

        int firstNumberAt(int unit, int place);

        int secondNumberAt(int unit, int place);

        boolean isStepAt(int unit, int place);
    }

    /** Rows of letters and holes, and the table of all their letters. */
    private static final class Recipes {
        private final int[] lengths = new int[MOST_RECIPES];
        private final int[] holes = new int[MOST_RECIPES];
        private final int[] firstLetters = new int[MOST_RECIPES];
        private final int[] digits = new int[MOST_RECIPES * MOST_IN_RECIPE];
        private final int[] letters = new int[MOST_RECIPES * MOST_IN_RECIPE];
        private int recipes;
        private int letterTotal;

        static boolean isReadable(long characters) {
            if (characters <= 0 || characters >> RECIPE_BITS != 0) {
                return false;
            }
            long rest = characters;
            for (int k = 0; k < MOST_IN_RECIPE && rest != 0; k++) {
                int digit = (int) (rest & DIGIT_MASK);
                if (digit == 0 || digit > HOLE_DIGIT) {
                    return false;
                }
                rest >>= DIGIT_BITS;
            }
            return true;
        }

        int add(long characters) {
            int recipe = recipes;
            firstLetters[recipe] = letterTotal;
            long rest = characters;
            for (int k = 0; k < MOST_IN_RECIPE && rest != 0; k++) {
                addDigit(recipe, (int) (rest & DIGIT_MASK));
                rest >>= DIGIT_BITS;
            }
            recipes++;
            return recipe;
        }

        private void addDigit(int recipe, int digit) {
            digits[recipe * MOST_IN_RECIPE + lengths[recipe]] = digit;
            lengths[recipe]++;
            if (digit == HOLE_DIGIT) {
                holes[recipe]++;
            } else {
                letters[letterTotal] = digit - 1;
                letterTotal++;
            }
        }

        boolean has(int recipe) {
            return recipe >= 0 && recipe < recipes;
        }

        int total() {
            return recipes;
        }

        int lengthOf(int recipe) {
            return lengths[recipe];
        }

        int holesOf(int recipe) {
            return holes[recipe];
        }

        boolean isHole(int recipe, int k) {
            return digits[recipe * MOST_IN_RECIPE + k] == HOLE_DIGIT;
        }

        int firstLetterOf(int recipe) {
            return firstLetters[recipe];
        }

        int letterTotal() {
            return letterTotal;
        }

        int letterAt(int k) {
            return letters[k];
        }
    }

    /** The functions as they were given. */
    private static final class Program implements Code {
        private final Recipes recipes = new Recipes();
        private final int[] parameters = new int[MOST_FUNCTIONS];
        private final int[] lengths = new int[MOST_FUNCTIONS];
        private final int[] words = new int[MOST_FUNCTIONS * MOST_INSTRUCTIONS];
        private final int[] firstNumbers = new int[MOST_FUNCTIONS * MOST_INSTRUCTIONS];
        private final int[] secondNumbers = new int[MOST_FUNCTIONS * MOST_INSTRUCTIONS];
        private int functions;

        Recipes recipes() {
            return recipes;
        }

        int addFunction(int parametersOfIt) {
            parameters[functions] = parametersOfIt;
            functions++;
            return functions - 1;
        }

        int addInstruction(int function, int word, int a, int b) {
            int place = lengths[function];
            int slot = function * MOST_INSTRUCTIONS + place;
            words[slot] = word;
            firstNumbers[slot] = a;
            secondNumbers[slot] = b;
            lengths[function]++;
            return place;
        }

        boolean hasFunction(int function) {
            return function >= 0 && function < functions;
        }

        int functionTotal() {
            return functions;
        }

        int parametersOf(int function) {
            return parameters[function];
        }

        int lengthOf(int function) {
            return lengths[function];
        }

        @Override
        public int wordAt(int unit, int place) {
            return words[unit * MOST_INSTRUCTIONS + place];
        }

        @Override
        public int firstNumberAt(int unit, int place) {
            return firstNumbers[unit * MOST_INSTRUCTIONS + place];
        }

        @Override
        public int secondNumberAt(int unit, int place) {
            return secondNumbers[unit * MOST_INSTRUCTIONS + place];
        }

        @Override
        public boolean isStepAt(int unit, int place) {
            return true;
        }

        boolean hasNumbersInBounds(int function, int place) {
            int a = firstNumberAt(function, place);
            int b = secondNumberAt(function, place);
            switch (wordAt(function, place)) {
                case LOAD:
                case STORE:
                    return a >= 0 && a < LOCALS;
                case GO:
                case ZERO:
                    return a >= 0 && a < lengths[function];
                case CALL:
                    return hasFunction(a);
                case FUNCTION:
                    return hasFunction(a) && b >= 0 && b <= parameters[a];
                case APPLY:
                    return a >= 0 && a <= MOST_PARAMETERS;
                case JOIN:
                    return recipes.has(a);
                default:
                    return true;
            }
        }

        /** How many values a word of either code needs on the stack; its numbers are in bounds. */
        int popsOf(int word, int a, int b) {
            switch (word) {
                case ADD:
                case LESS:
                case TIMES:
                case PUT:
                case APPEND:
                    return 2;
                case STORE:
                case TWICE:
                case DROP:
                case ZERO:
                case RETURN:
                case SAY:
                case CHARACTERS:
                    return 1;
                case CALL:
                    return parameters[a];
                case FUNCTION:
                    return b;
                case APPLY:
                case INVOKE:
                    return a + 1;
                case JOIN:
                    return recipes.holesOf(a);
                default:
                    return 0;
            }
        }

        int pushesOf(int word) {
            switch (word) {
                case STORE:
                case DROP:
                case GO:
                case ZERO:
                case RETURN:
                case SAY:
                    return 0;
                case TWICE:
                    return 2;
                default:
                    return 1;
            }
        }
    }

    /** Follows the ways through one function and keeps the heights that they meet. */
    private static final class Ways {
        private final Program program;
        private final int[] heights = new int[MOST_INSTRUCTIONS];
        private final boolean[] gone = new boolean[MOST_INSTRUCTIONS];

        Ways(Program program) {
            this.program = program;
        }

        /** The place that is wrong, or NONE; behind NONE the heights are those of this function. */
        int wrongPlace(int function) {
            int length = program.lengthOf(function);
            if (length == 0) {
                return 0;
            }
            for (int place = 0; place < length; place++) {
                if (!program.hasNumbersInBounds(function, place)) {
                    return place;
                }
            }
            return wrongOnWays(function, length);
        }

        boolean isMet(int place) {
            return heights[place] != NONE;
        }

        /** The height of the stack before a place that is met. */
        int heightAt(int place) {
            return heights[place];
        }

        private int wrongOnWays(int function, int length) {
            for (int place = 0; place < length; place++) {
                heights[place] = NONE;
                gone[place] = false;
            }
            heights[0] = 0;
            for (int turn = 0; turn < length; turn++) {
                int place = leastWaiting(length);
                if (place == NONE) {
                    return NONE;
                }
                gone[place] = true;
                if (!goesOn(function, place, length)) {
                    return place;
                }
            }
            return NONE;
        }

        private int leastWaiting(int length) {
            for (int place = 0; place < length; place++) {
                if (heights[place] != NONE && !gone[place]) {
                    return place;
                }
            }
            return NONE;
        }

        private boolean goesOn(int function, int place, int length) {
            int word = program.wordAt(function, place);
            int a = program.firstNumberAt(function, place);
            int b = program.secondNumberAt(function, place);
            int left = heights[place] - program.popsOf(word, a, b);
            int height = left + program.pushesOf(word);
            if (left < 0 || height > MOST_HEIGHT) {
                return false;
            }
            if (word == RETURN) {
                return true;
            }
            if ((word == GO || word == ZERO) && !meets(a, height, length)) {
                return false;
            }
            return word == GO || meets(place + 1, height, length);
        }

        private boolean meets(int place, int height, int length) {
            if (place >= length) {
                return false;
            }
            if (heights[place] == NONE) {
                heights[place] = height;
            }
            return heights[place] == height;
        }
    }

    /** A row of instructions that grows; what was made for a longer code is used again. */
    private static final class Instructions {
        private int[] words = new int[64];
        private int[] firstNumbers = new int[64];
        private int[] secondNumbers = new int[64];
        /** 1 for an instruction that is a step, else 0. */
        private int[] steps = new int[64];
        private int length;

        void clear() {
            length = 0;
        }

        int length() {
            return length;
        }

        void add(int word, int a, int b) {
            if (length == words.length) {
                grow();
            }
            words[length] = word;
            firstNumbers[length] = a;
            secondNumbers[length] = b;
            steps[length] = 0;
            length++;
        }

        private void grow() {
            int longer = 2 * length;
            words = Arrays.copyOf(words, longer);
            firstNumbers = Arrays.copyOf(firstNumbers, longer);
            secondNumbers = Arrays.copyOf(secondNumbers, longer);
            steps = Arrays.copyOf(steps, longer);
        }

        void markStep(int at) {
            steps[at] = 1;
        }

        void setFirstNumber(int at, int a) {
            firstNumbers[at] = a;
        }

        int word(int at) {
            return words[at];
        }

        int firstNumber(int at) {
            return firstNumbers[at];
        }

        int secondNumber(int at) {
            return secondNumbers[at];
        }

        boolean isStep(int at) {
            return steps[at] == 1;
        }
    }

    /** The plainer code: its units are the functions, and behind them the classes' methods. */
    private static final class PlainCode implements Code {
        private final Program program;
        private final Ways ways;
        private final Instructions instructions = new Instructions();
        private final int[] starts = new int[MOST_FUNCTIONS + MOST_CLASSES + 1];
        private final int[] classFunctions = new int[MOST_CLASSES];
        private final int[] classValues = new int[MOST_CLASSES];
        private final int[] sourceHeights = new int[MOST_FUNCTIONS];
        private final int[] plainHeights = new int[MOST_FUNCTIONS];
        private final int[] groupPlaces = new int[MOST_INSTRUCTIONS];
        private int classes;
        private boolean isMade;

        PlainCode(Program program, Ways ways) {
            this.program = program;
            this.ways = ways;
        }

        void forget() {
            isMade = false;
        }

        boolean isMade() {
            return isMade;
        }

        int classTotal() {
            return classes;
        }

        int valuesOfClass(int cls) {
            return classValues[cls];
        }

        int functionOfClass(int cls) {
            return classFunctions[cls];
        }

        int methodOfClass(int cls) {
            return program.functionTotal() + cls;
        }

        boolean isMethod(int unit) {
            return unit >= program.functionTotal();
        }

        int sourceHeightOf(int function) {
            return sourceHeights[function];
        }

        int plainHeightOf(int function) {
            return plainHeights[function];
        }

        int lengthOf(int unit) {
            return starts[unit + 1] - starts[unit];
        }

        @Override
        public int wordAt(int unit, int place) {
            return instructions.word(starts[unit] + place);
        }

        @Override
        public int firstNumberAt(int unit, int place) {
            return instructions.firstNumber(starts[unit] + place);
        }

        @Override
        public int secondNumberAt(int unit, int place) {
            return instructions.secondNumber(starts[unit] + place);
        }

        @Override
        public boolean isStepAt(int unit, int place) {
            return instructions.isStep(starts[unit] + place);
        }

        /** Makes the code of functions that are all right: how many instructions the functions have. */
        int make() {
            instructions.clear();
            classes = 0;
            for (int f = 0; f < program.functionTotal(); f++) {
                makeFunction(f);
            }
            int total = instructions.length();
            for (int cls = 0; cls < classes; cls++) {
                makeMethod(cls);
            }
            isMade = true;
            return total;
        }

        private void makeFunction(int function) {
            int start = instructions.length();
            starts[function] = start;
            sourceHeights[function] = 0;
            plainHeights[function] = 0;
            // The function is right: this is asked for the heights that its ways meet.
            ways.wrongPlace(function);
            for (int place = 0; place < program.lengthOf(function); place++) {
                int first = instructions.length();
                groupPlaces[place] = first - start;
                makeGroup(function, place);
                instructions.markStep(first);
                if (ways.isMet(place)) {
                    measure(function, place, first);
                }
            }
            starts[function + 1] = instructions.length();
            movePlaces(start);
        }

        private void makeGroup(int function, int place) {
            int word = program.wordAt(function, place);
            int a = program.firstNumberAt(function, place);
            if (word == FUNCTION) {
                makeNew(a, program.secondNumberAt(function, place));
            } else if (word == APPLY) {
                instructions.add(INVOKE, a, 0);
            } else if (word == JOIN) {
                makeJoin(a, program.recipes());
            } else {
                instructions.add(word, a, 0);
            }
        }

        private void makeNew(int function, int values) {
            classFunctions[classes] = function;
            classValues[classes] = values;
            instructions.add(NEW, classes, 0);
            classes++;
            if (values == 0) {
                return;
            }
            instructions.add(STORE, SPARE, 0);
            for (int k = values; k > 0; k--) {
                instructions.add(STORE, SPARE + k, 0);
            }
            instructions.add(LOAD, SPARE, 0);
            for (int k = 0; k < values; k++) {
                instructions.add(LOAD, SPARE + 1 + k, 0);
                instructions.add(PUT, k, 0);
            }
        }

        private void makeJoin(int recipe, Recipes recipes) {
            for (int k = recipes.holesOf(recipe) - 1; k >= 0; k--) {
                instructions.add(STORE, SPARE + k, 0);
            }
            instructions.add(BEGIN, 0, 0);
            int hole = 0;
            int letter = recipes.firstLetterOf(recipe);
            int waiting = 0;
            for (int k = 0; k < recipes.lengthOf(recipe); k++) {
                if (!recipes.isHole(recipe, k)) {
                    waiting++;
                    continue;
                }
                if (waiting > 0) {
                    instructions.add(CHARACTERS, letter, waiting);
                    letter += waiting;
                    waiting = 0;
                }
                instructions.add(LOAD, SPARE + hole, 0);
                instructions.add(APPEND, 0, 0);
                hole++;
            }
            if (waiting > 0) {
                instructions.add(CHARACTERS, letter, waiting);
            }
        }

        private void makeMethod(int cls) {
            int unit = methodOfClass(cls);
            starts[unit] = instructions.length();
            int own = classValues[cls];
            for (int k = 0; k < own; k++) {
                instructions.add(GET, k, 0);
            }
            int others = program.parametersOf(classFunctions[cls]) - own;
            for (int k = 1; k <= others; k++) {
                instructions.add(LOAD, k, 0);
            }
            instructions.add(CALL, classFunctions[cls], 0);
            instructions.add(RETURN, 0, 0);
            starts[unit + 1] = instructions.length();
        }

        /** Raises the function's greatest heights by a place and by its group from first on. */
        private void measure(int function, int place, int first) {
            int before = ways.heightAt(place);
            int a = program.firstNumberAt(function, place);
            int b = program.secondNumberAt(function, place);
            int behind = before + risesBy(program.wordAt(function, place), a, b);
            sourceHeights[function] = Math.max(sourceHeights[function], behind);
            int height = before;
            for (int at = first; at < instructions.length(); at++) {
                height += risesBy(instructions.word(at), instructions.firstNumber(at), instructions.secondNumber(at));
                plainHeights[function] = Math.max(plainHeights[function], height);
            }
        }

        private int risesBy(int word, int a, int b) {
            return program.pushesOf(word) - program.popsOf(word, a, b);
        }

        /** Only behind the last group are all groups' places known. */
        private void movePlaces(int start) {
            for (int at = start; at < instructions.length(); at++) {
                int word = instructions.word(at);
                if (word == GO || word == ZERO) {
                    instructions.setFirstNumber(at, groupPlaces[instructions.firstNumber(at)]);
                }
            }
        }
    }

    /** The functions and methods that are open, each with locals and a stack of its own. */
    private static final class Frames {
        private static final int SLOTS = PLAIN_LOCALS + PLAIN_HEIGHT;
        /** A method is only ever opened by a function, and opens nothing but a function. */
        private static final int MOST_FRAMES = 2 * MOST_OPEN_FUNCTIONS;

        private final long[] slots = new long[MOST_FRAMES * SLOTS];
        private final int[] units = new int[MOST_FRAMES];
        private final int[] places = new int[MOST_FRAMES];
        private final int[] tops = new int[MOST_FRAMES];
        private final long[] taken = new long[MOST_IN_RECIPE];
        private int frames;
        private int current;

        void clear() {
            frames = 0;
            current = 0;
        }

        boolean areOpen() {
            return frames > 0;
        }

        void open(int unit) {
            if (frames < MOST_FRAMES) {
                current = frames;
                frames++;
                units[current] = unit;
                places[current] = 0;
                int locals = current * SLOTS;
                for (int k = 0; k < PLAIN_LOCALS; k++) {
                    slots[locals + k] = NUMBER_ZERO;
                }
                tops[current] = locals + PLAIN_LOCALS;
            }
        }

        void close() {
            frames--;
            current = Math.max(frames - 1, 0);
        }

        int unit() {
            return units[current];
        }

        int place() {
            return places[current];
        }

        void goTo(int place) {
            places[current] = place;
        }

        long local(int k) {
            return slots[current * SLOTS + k];
        }

        void setLocal(int k, long value) {
            slots[current * SLOTS + k] = value;
        }

        void push(long value) {
            if (tops[current] < (current + 1) * SLOTS) {
                slots[tops[current]] = value;
                tops[current]++;
            }
        }

        long pop() {
            if (tops[current] == current * SLOTS + PLAIN_LOCALS) {
                return NUMBER_ZERO;
            }
            tops[current]--;
            return slots[tops[current]];
        }

        /** Pops values together; takenAt(0) is then the lowest of them. */
        void take(int many) {
            for (int k = many - 1; k >= 0; k--) {
                taken[k] = pop();
            }
        }

        long takenAt(int k) {
            return taken[k];
        }

        void setLocalsToTaken(int first, int many) {
            for (int k = 0; k < many; k++) {
                setLocal(first + k, taken[k]);
            }
        }
    }

    /** Function values of the first code, which are typed by functions, or objects, typed by classes. */
    private static final class Holders {
        /** A step makes one at most. */
        private final int[] types = new int[MOST_STEPS];
        private final int[] sizes = new int[MOST_STEPS];
        private final long[] values = new long[MOST_STEPS * MOST_PARAMETERS];
        private int holders;

        void clear() {
            holders = 0;
        }

        /** A new one with its values at 0. */
        long add(int type, int many) {
            if (holders == MOST_STEPS) {
                return NUMBER_ZERO;
            }
            int holder = holders;
            holders++;
            types[holder] = type;
            sizes[holder] = many;
            for (int k = 0; k < many; k++) {
                values[holder * MOST_PARAMETERS + k] = NUMBER_ZERO;
            }
            return valueOf(KIND_FUNCTION, holder);
        }

        int typeOf(int holder) {
            return types[holder];
        }

        int sizeOf(int holder) {
            return sizes[holder];
        }

        long valueAt(int holder, int k) {
            return values[holder * MOST_PARAMETERS + k];
        }

        void setValue(int holder, int k, long value) {
            values[holder * MOST_PARAMETERS + k] = value;
        }
    }

    /** The texts of one run, one behind the other in one row, and its output. */
    private static final class Texts {
        /** A step makes one text at most. */
        private static final int MOST_KEPT = MOST_STEPS * MOST_CHARACTERS;

        private final int[] starts = new int[MOST_STEPS];
        private final int[] lengths = new int[MOST_STEPS];
        private byte[] kept = new byte[MOST_CHARACTERS];
        private int texts;
        private final byte[] spelled = new byte[MOST_CHARACTERS];
        private int spelledLength;
        private final byte[] output = new byte[MOST_CHARACTERS];
        private int outputLength;

        void clear() {
            texts = 0;
            outputLength = 0;
        }

        int outputLength() {
            return outputLength;
        }

        int outputAt(int k) {
            return output[k];
        }

        /** An empty text. It alone may grow until the next one is begun behind it. */
        long begin() {
            if (texts == MOST_STEPS) {
                return NUMBER_ZERO;
            }
            starts[texts] = texts == 0 ? 0 : starts[texts - 1] + lengths[texts - 1];
            lengths[texts] = 0;
            texts++;
            return valueOf(KIND_TEXT, texts - 1);
        }

        boolean appendLetter(int text, int letter) {
            spelled[0] = (byte) ('a' + letter);
            spelledLength = 1;
            return appendSpelled(text);
        }

        boolean appendValue(int text, long value) {
            spell(value);
            return appendSpelled(text);
        }

        /** False, and nothing is said, if the output would be too long. */
        boolean sayValue(long value) {
            spell(value);
            if (outputLength + spelledLength > MOST_CHARACTERS) {
                return false;
            }
            System.arraycopy(spelled, 0, output, outputLength, spelledLength);
            outputLength += spelledLength;
            return true;
        }

        private boolean appendSpelled(int text) {
            if (lengths[text] + spelledLength > MOST_CHARACTERS) {
                return false;
            }
            int end = starts[text] + lengths[text];
            if (end + spelledLength > kept.length) {
                // Twice as long is enough: no text is longer than the shortest row.
                kept = Arrays.copyOf(kept, Math.min(2 * kept.length, MOST_KEPT));
            }
            System.arraycopy(spelled, 0, kept, end, spelledLength);
            lengths[text] += spelledLength;
            return true;
        }

        private void spell(long value) {
            int kind = kindOf(value);
            int content = contentOf(value);
            if (kind == KIND_NUMBER) {
                spellNumber(content);
            } else if (kind == KIND_TEXT) {
                spelledLength = lengths[content];
                System.arraycopy(kept, starts[content], spelled, 0, spelledLength);
            } else {
                spelled[0] = 'f';
                spelledLength = 1;
            }
        }

        private void spellNumber(int number) {
            // A long, since the least number has no opposite among the ints.
            long rest = number < 0 ? -(long) number : number;
            int digits = 1;
            for (long least = 10; digits < 10 && least <= rest; least *= 10) {
                digits++;
            }
            int sign = number < 0 ? 1 : 0;
            spelled[0] = '-';
            spelledLength = sign + digits;
            for (int k = spelledLength - 1; k >= sign; k--) {
                spelled[k] = (byte) ('0' + rest % 10);
                rest /= 10;
            }
        }
    }

    /** Runs either code. */
    private static final class Machine {
        private final Program program;
        private final PlainCode plainCode;
        private final Frames frames = new Frames();
        private final Holders holders = new Holders();
        private final Texts texts = new Texts();
        private Code code;
        private int openFunctions;
        private int steps;
        private int fault;
        private long returned = NO_VALUE;

        Machine(Program program, PlainCode plainCode) {
            this.program = program;
            this.plainCode = plainCode;
            this.code = program;
        }

        int outputLength() {
            return texts.outputLength();
        }

        int outputAt(int k) {
            return texts.outputAt(k);
        }

        int stepTotal() {
            return steps;
        }

        int returnedKind() {
            return kindOf(returned);
        }

        int returnedNumber() {
            return returnedKind() == KIND_NUMBER ? contentOf(returned) : 0;
        }

        /** The fault, or 0. */
        int perform(int function, int x, int y, int z, boolean plainer) {
            frames.clear();
            holders.clear();
            texts.clear();
            openFunctions = 0;
            steps = 0;
            fault = 0;
            returned = NO_VALUE;
            code = program;
            if (plainer) {
                code = plainCode;
            }
            beginFunction(function);
            int parameters = program.parametersOf(function);
            for (int k = 0; k < parameters; k++) {
                frames.setLocal(k, valueOf(KIND_NUMBER, k == 0 ? x : k == 1 ? y : z));
            }
            for (int turn = 0; turn < MOST_TURNS && fault == 0 && frames.areOpen(); turn++) {
                doNext();
            }
            return fault;
        }

        private void doNext() {
            int unit = frames.unit();
            int place = frames.place();
            if (code.isStepAt(unit, place)) {
                if (steps == MOST_STEPS) {
                    fault = FAULT_STEPS;
                    return;
                }
                steps++;
            }
            frames.goTo(place + 1);
            int word = code.wordAt(unit, place);
            int a = code.firstNumberAt(unit, place);
            int b = code.secondNumberAt(unit, place);
            if (word <= SAY) {
                doShared(word, a);
            } else if (word <= JOIN) {
                doFirst(word, a, b);
            } else {
                doPlain(word, a, b);
            }
        }

        /** The words of both codes. */
        private void doShared(int word, int a) {
            switch (word) {
                case NUMBER:
                    frames.push(valueOf(KIND_NUMBER, a));
                    break;
                case LOAD:
                    frames.push(frames.local(a));
                    break;
                case STORE:
                    frames.setLocal(a, frames.pop());
                    break;
                case TWICE:
                    long top = frames.pop();
                    frames.push(top);
                    frames.push(top);
                    break;
                case DROP:
                    frames.pop();
                    break;
                case GO:
                    frames.goTo(a);
                    break;
                case ZERO:
                    goIfZero(a);
                    break;
                case CALL:
                    callFunction(a);
                    break;
                case RETURN:
                    giveBack();
                    break;
                case SAY:
                    faultUnless(texts.sayValue(frames.pop()), FAULT_CHARACTERS);
                    break;
                default:
                    reckon(word);
                    break;
            }
        }

        /** The words of the first code alone. */
        private void doFirst(int word, int a, int b) {
            if (word == FUNCTION) {
                frames.take(b);
                long made = holders.add(a, b);
                for (int k = 0; k < b; k++) {
                    holders.setValue(contentOf(made), k, frames.takenAt(k));
                }
                frames.push(made);
            } else if (word == APPLY) {
                applyTo(a);
            } else {
                join(a, program.recipes());
            }
        }

        /** The words of the plainer code alone. */
        private void doPlain(int word, int a, int b) {
            switch (word) {
                case NEW:
                    frames.push(holders.add(a, plainCode.valuesOfClass(a)));
                    break;
                case PUT:
                    frames.take(2);
                    holders.setValue(contentOf(frames.takenAt(0)), a, frames.takenAt(1));
                    frames.push(frames.takenAt(0));
                    break;
                case INVOKE:
                    invoke(a);
                    break;
                case GET:
                    frames.push(holders.valueAt(contentOf(frames.local(0)), a));
                    break;
                case BEGIN:
                    frames.push(texts.begin());
                    break;
                case CHARACTERS:
                    appendCharacters(a, b);
                    break;
                default:
                    frames.take(2);
                    // The text itself grows: between BEGIN and the group's end nothing else holds it.
                    boolean fits = texts.appendValue(contentOf(frames.takenAt(0)), frames.takenAt(1));
                    faultUnless(fits, FAULT_CHARACTERS);
                    frames.push(frames.takenAt(0));
                    break;
            }
        }

        private void faultUnless(boolean well, int number) {
            if (!well) {
                fault = number;
            }
        }

        private void reckon(int word) {
            frames.take(2);
            long lower = frames.takenAt(0);
            long upper = frames.takenAt(1);
            if (kindOf(lower) != KIND_NUMBER || kindOf(upper) != KIND_NUMBER) {
                fault = FAULT_KIND;
                return;
            }
            int left = contentOf(lower);
            int right = contentOf(upper);
            int result = word == ADD ? left + right : word == LESS ? left - right : left * right;
            frames.push(valueOf(KIND_NUMBER, result));
        }

        private void goIfZero(int place) {
            long value = frames.pop();
            if (kindOf(value) != KIND_NUMBER) {
                fault = FAULT_KIND;
            } else if (contentOf(value) == 0) {
                frames.goTo(place);
            }
        }

        /** False, with a fault, if too many functions are begun one in the other. */
        private boolean beginFunction(int function) {
            if (openFunctions == MOST_OPEN_FUNCTIONS) {
                fault = FAULT_DEPTH;
                return false;
            }
            openFunctions++;
            frames.open(function);
            return true;
        }

        private void callFunction(int function) {
            int parameters = program.parametersOf(function);
            frames.take(parameters);
            if (beginFunction(function)) {
                frames.setLocalsToTaken(0, parameters);
            }
        }

        private void giveBack() {
            long value = frames.pop();
            if (!plainCode.isMethod(frames.unit())) {
                openFunctions--;
            }
            frames.close();
            if (frames.areOpen()) {
                frames.push(value);
            } else {
                returned = value;
            }
        }

        private void applyTo(int many) {
            frames.take(many);
            long applied = frames.pop();
            if (kindOf(applied) != KIND_FUNCTION) {
                fault = FAULT_KIND;
                return;
            }
            int holder = contentOf(applied);
            int function = holders.typeOf(holder);
            int own = holders.sizeOf(holder);
            if (own + many != program.parametersOf(function)) {
                fault = FAULT_VALUES;
                return;
            }
            if (beginFunction(function)) {
                for (int k = 0; k < own; k++) {
                    frames.setLocal(k, holders.valueAt(holder, k));
                }
                frames.setLocalsToTaken(own, many);
            }
        }

        private void invoke(int many) {
            frames.take(many);
            long object = frames.pop();
            if (kindOf(object) != KIND_FUNCTION) {
                fault = FAULT_KIND;
                return;
            }
            int cls = holders.typeOf(contentOf(object));
            int parameters = program.parametersOf(plainCode.functionOfClass(cls));
            if (plainCode.valuesOfClass(cls) + many != parameters) {
                fault = FAULT_VALUES;
                return;
            }
            frames.open(plainCode.methodOfClass(cls));
            frames.setLocal(0, object);
            frames.setLocalsToTaken(1, many);
        }

        private void join(int recipe, Recipes recipes) {
            frames.take(recipes.holesOf(recipe));
            long joined = texts.begin();
            int text = contentOf(joined);
            int letter = recipes.firstLetterOf(recipe);
            int hole = 0;
            for (int k = 0; k < recipes.lengthOf(recipe) && fault == 0; k++) {
                if (recipes.isHole(recipe, k)) {
                    faultUnless(texts.appendValue(text, frames.takenAt(hole)), FAULT_CHARACTERS);
                    hole++;
                } else {
                    faultUnless(texts.appendLetter(text, recipes.letterAt(letter)), FAULT_CHARACTERS);
                    letter++;
                }
            }
            frames.push(joined);
        }

        private void appendCharacters(int first, int many) {
            long value = frames.pop();
            int text = contentOf(value);
            for (int k = 0; k < many && fault == 0; k++) {
                int letter = program.recipes().letterAt(first + k);
                faultUnless(texts.appendLetter(text, letter), FAULT_CHARACTERS);
            }
            frames.push(value);
        }
    }
}
