/** What the tests share: answers against what is due, and short ways to write programs. */
final class Due {
    static final int NUMBER = 0, LOAD = 1, STORE = 2, ADD = 3, LESS = 4, TIMES = 5, TWICE = 6, DROP = 7, GO = 8,
            ZERO = 9, CALL = 10, RETURN = 11, SAY = 12, FUNCTION = 13, APPLY = 14, JOIN = 15;
    static final int NEW = 20, PUT = 21, INVOKE = 22, GET = 23, BEGIN = 24, CHARACTERS = 25, APPEND = 26;

    private static final String[] WORDS = {"NUMBER", "LOAD", "STORE", "ADD", "LESS", "TIMES", "TWICE", "DROP", "GO",
        "ZERO", "CALL", "RETURN", "SAY", "FUNCTION", "APPLY", "JOIN"};

    private static int wrong = 0;
    private static String about = "";

    private Due() {
    }

    /** The document's sentence that the answers from here on are about. */
    static void sentence(String words) {
        about = "\"" + words + "\": ";
    }

    private static void tell(String text) {
        wrong++;
        System.out.println(about + text);
    }

    interface Call {
        long answer();
    }

    static void answer(String call, long got, long want) {
        if (got != want) {
            tell(call + " answered " + got + ", due is " + want);
        }
    }

    static void text(String call, String got, String want) {
        if (!got.equals(want)) {
            tell(call + " answered '" + got + "', due is '" + want + "'");
        }
    }

    static void argument(String what, Call call) {
        thrown(what, call, "IllegalArgumentException");
    }

    static void state(String what, Call call) {
        thrown(what, call, "IllegalStateException");
    }

    /** An illegal argument, behind which all is as before. */
    static void refusedArgument(String what, FeatureDesugarer x, Call call) {
        String before = whole(x);
        argument(what, call);
        text(what + ": all that can be asked behind it", whole(x), before);
    }

    /** An illegal state, behind which all is as before. */
    static void refusedState(String what, FeatureDesugarer x, Call call) {
        String before = whole(x);
        state(what, call);
        text(what + ": all that can be asked behind it", whole(x), before);
    }

    private static void thrown(String what, Call call, String want) {
        String got;
        try {
            got = "the answer " + call.answer();
        } catch (RuntimeException e) {
            got = e.getClass().getSimpleName();
        }
        if (!got.equals(want)) {
            tell(what + " gave " + got + ", due is " + want);
        }
    }

    /** Ends a test: with exit code 1 if an answer was wrong. */
    static void end() {
        if (wrong > 0) {
            System.out.println(wrong + " answers are wrong");
            System.exit(1);
        }
    }

    /** A function with instructions, each written as a word, a and b. */
    static int function(FeatureDesugarer x, int parameters, int... instructions) {
        int f = x.function(parameters);
        write(x, f, instructions);
        return f;
    }

    static void write(FeatureDesugarer x, int f, int... instructions) {
        for (int k = 0; k < instructions.length; k += 3) {
            x.code(f, instructions[k], instructions[k + 1], instructions[k + 2]);
        }
    }

    /** A function with instructions that are written with names: LOAD 0; TWICE * 3; FUNCTION 1 2; RETURN. */
    static int written(FeatureDesugarer x, int parameters, String instructions) {
        int f = x.function(parameters);
        more(x, f, instructions);
        return f;
    }

    /** Written instructions behind a function's others. */
    static void more(FeatureDesugarer x, int f, String instructions) {
        for (String one : instructions.split(";")) {
            String[] times = one.split("\\*");
            String[] parts = times[0].trim().split(" +");
            int a = parts.length > 1 ? Integer.parseInt(parts[1]) : 0;
            int b = parts.length > 2 ? Integer.parseInt(parts[2]) : 0;
            int many = times.length > 1 ? Integer.parseInt(times[1].trim()) : 1;
            for (int k = 0; k < many; k++) {
                x.code(f, java.util.List.of(WORDS).indexOf(parts[0]), a, b);
            }
        }
    }

    /** The number of a recipe that is written with letters and _. */
    static long characters(String written) {
        long number = 0;
        for (int k = written.length() - 1; k >= 0; k--) {
            char c = written.charAt(k);
            number = number * 32 + (c == '_' ? 27 : c - 'a' + 1);
        }
        return number;
    }

    static int recipe(FeatureDesugarer x, String written) {
        return x.recipe(characters(written));
    }

    static String output(FeatureDesugarer x) {
        StringBuilder text = new StringBuilder();
        for (int k = 0; k < x.told(0); k++) {
            text.append((char) x.said(k));
        }
        return text.toString();
    }

    /** A function's plainer code: word a b; word a b; .. */
    static String plain(FeatureDesugarer x, int f) {
        StringBuilder text = new StringBuilder();
        for (int i = 0; i < x.size(f, 1); i++) {
            text.append(i == 0 ? "" : "; ").append(x.plain(f, i, 0));
            text.append(' ').append(x.plain(f, i, 1)).append(' ').append(x.plain(f, i, 2));
        }
        return text.toString();
    }

    /** All that can be asked of an object without changing it. */
    static String whole(FeatureDesugarer x) {
        StringBuilder text = new StringBuilder();
        text.append(x.count(0)).append(' ').append(x.count(1)).append(' ').append(x.check());
        for (int f = 0; f < x.count(0); f++) {
            text.append(' ').append(x.size(f, 0));
        }
        for (int what = 0; what < 4; what++) {
            text.append(' ').append(x.told(what));
        }
        text.append(' ').append(output(x));
        try {
            x.count(2);
        } catch (IllegalStateException e) {
            return text.append(" not made").toString();
        }
        for (int f = 0; f < x.count(0); f++) {
            text.append('\n').append(x.size(f, 2)).append(' ').append(x.size(f, 3)).append(": ").append(plain(x, f));
        }
        for (int cls = 0; cls < x.count(2); cls++) {
            text.append('\n').append(x.made(cls, 0)).append(' ').append(x.made(cls, 1)).append(' ');
            text.append(x.made(cls, 2));
        }
        for (int k = 0; k < x.count(3); k++) {
            text.append(' ').append(x.character(k));
        }
        return text.toString();
    }

    /** A run of either code must end so; steps below 0 are not asked for. */
    static void run(String what, FeatureDesugarer x, int[] call, int fault, int steps, int number, int kind,
            String said) {
        for (int code = 0; code < 2; code++) {
            String name = what + (code == 0 ? ", first code" : ", plainer code");
            answer(name + ": run", x.run(call[0], call[1], call[2], call[3], code == 1), fault);
            answer(name + ": told(0)", x.told(0), said.length());
            if (steps >= 0) {
                answer(name + ": told(1)", x.told(1), steps);
            }
            answer(name + ": told(2)", x.told(2), number);
            answer(name + ": told(3)", x.told(3), kind);
            text(name + ": output", output(x), said);
        }
    }

    static int[] call(int f, int x, int y, int z) {
        return new int[] {f, x, y, z};
    }
}
