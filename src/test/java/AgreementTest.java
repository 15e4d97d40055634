import java.util.Random;

/** Promises 5 to 14 on many programs: the class, and both codes, against the model. */
public final class AgreementTest {
    private static final int PROGRAMS = 6000;

    private final Random random;
    private final FeatureDesugarer x = new FeatureDesugarer();
    private final Model model = new Model();

    private AgreementTest(int seed) {
        random = new Random(seed);
    }

    public static void main(String[] args) {
        int[] faults = new int[6];
        int wrongPrograms = 0;
        for (int seed = 0; seed < PROGRAMS; seed++) {
            AgreementTest test = new AgreementTest(seed);
            test.build();
            int want = test.model.check();
            Due.answer("program " + seed + ": check()", test.x.check(), want);
            if (want != -1) {
                wrongPrograms++;
                Due.answer("program " + seed + ": lower()", test.x.lower(), -1);
                continue;
            }
            test.lowers(seed);
            for (int f = 0; f < test.model.functions.size(); f++) {
                faults[test.runs("program " + seed + ", function " + f, f)]++;
            }
        }
        // The programs are worth something only if they are right and wrong, and end in every way.
        Due.answer("programs that are wrong, enough", Math.min(wrongPrograms, 1000), 1000);
        for (int fault = 0; fault <= 5; fault++) {
            Due.answer("runs that end with " + fault + ", enough", Math.min(faults[fault], 50), 50);
        }
        Due.end();
    }

    private void lowers(int seed) {
        int total = x.lower();
        int sum = 0;
        int classes = 0;
        for (int f = 0; f < model.functions.size(); f++) {
            sum += x.size(f, 1);
            Due.text("program " + seed + ": the plainer code of " + f, Due.plain(x, f), model.lowered(f, classes));
            for (int[] i : model.functions.get(f)) {
                if (i[0] == Due.FUNCTION) {
                    hasClass("program " + seed, classes, i[1], i[2]);
                    classes++;
                }
            }
            int[] greatest = model.greatestHeights(f);
            Due.answer("program " + seed + ": size(" + f + ", 2)", x.size(f, 2), greatest[0]);
            Due.answer("program " + seed + ": size(" + f + ", 3)", x.size(f, 3), greatest[1]);
        }
        Due.answer("program " + seed + ": lower()", total, sum);
        Due.answer("program " + seed + ": count(2)", x.count(2), classes);
        StringBuilder table = new StringBuilder();
        for (int k = 0; k < x.count(3); k++) {
            table.append((char) ('a' + x.character(k)));
        }
        Due.text("program " + seed + ": the table", table.toString(), model.table());
    }

    private void hasClass(String what, int cls, int function, int values) {
        Due.answer(what + ": made(" + cls + ", 0)", x.made(cls, 0), values);
        Due.answer(what + ": made(" + cls + ", 1)", x.made(cls, 1), function);
        Due.answer(what + ": made(" + cls + ", 2)", x.made(cls, 2), model.parameters.get(function) + 2);
    }

    private int runs(String what, int f) {
        int[] xyz = {random.nextInt(7) - 2, random.nextInt(50), random.nextInt()};
        int fault = model.run(f, xyz, null);
        due(what + ", first code", fault, f, xyz, false);
        Due.answer(what + ": the model's run of the plainer code", model.run(f, xyz, x), fault);
        due(what + ", plainer code", fault, f, xyz, true);
        return fault;
    }

    private void due(String what, int fault, int f, int[] xyz, boolean plainer) {
        Due.answer(what + ": run", x.run(f, xyz[0], xyz[1], xyz[2], plainer), fault);
        Due.answer(what + ": told(1)", x.told(1), model.steps);
        Due.answer(what + ": told(2)", x.told(2), model.number());
        Due.answer(what + ": told(3)", x.told(3), model.kind());
        Due.text(what + ": output", Due.output(x), model.output.toString());
    }

    private void build() {
        int recipes = 1 + random.nextInt(4);
        for (int k = 0; k < recipes; k++) {
            StringBuilder text = new StringBuilder();
            int length = 1 + random.nextInt(random.nextInt(4) == 0 ? 12 : 5);
            for (int c = 0; c < length; c++) {
                text.append(random.nextInt(2) == 0 ? '_' : (char) ('a' + random.nextInt(26)));
            }
            model.recipes.add(text.toString());
            Due.recipe(x, text.toString());
        }
        int functions = 1 + random.nextInt(4);
        for (int f = 0; f < functions; f++) {
            int parameters = random.nextInt(4);
            model.parameters.add(parameters);
            model.functions.add(new java.util.ArrayList<>());
            x.function(parameters);
        }
        for (int f = 0; f < functions; f++) {
            writeFunction(f);
        }
    }

    private void add(int f, int word, int a, int b) {
        model.functions.get(f).add(new int[] {word, a, b});
        x.code(f, word, a, b);
    }

    /** Mostly words that the stack's height allows, so that many programs are right. */
    private void writeFunction(int f) {
        int[] heights = new int[40];
        int height = 0;
        int length = 4 + random.nextInt(35);
        for (int place = 0; place < length; place++) {
            heights[place] = height;
            int word = pick(height, place == length - 1);
            int a = random.nextInt(4);
            int b = 0;
            if (word == Due.NUMBER) {
                a = random.nextInt(5) == 0 ? random.nextInt() : random.nextInt(4) - 1;
            } else if (word == Due.GO || word == Due.ZERO) {
                a = target(heights, place, height - (word == Due.ZERO ? 1 : 0), length);
            } else if (word == Due.CALL || word == Due.FUNCTION) {
                a = random.nextInt(model.functions.size());
                b = word == Due.CALL ? 0 : random.nextInt(model.parameters.get(a) + 1);
            } else if (word == Due.JOIN) {
                a = random.nextInt(model.recipes.size());
            }
            if (random.nextInt(300) == 0) {
                a += random.nextInt(20) - 10;
            }
            if (word != Due.FUNCTION && random.nextInt(20) == 0) {
                // A number b that the word does not have is not asked for.
                b = random.nextInt();
            }
            add(f, word, a, b);
            height = Math.max(0, height + rise(word, a, b));
            if (word == Due.FUNCTION && random.nextInt(2) == 0 && place + 5 < length) {
                // Function values seldom meet an APPLY by chance.
                int many = random.nextInt(3);
                for (int k = 0; k < many; k++) {
                    add(f, Due.LOAD, k, 0);
                    heights[++place] = height + k;
                }
                add(f, Due.APPLY, many, 0);
                heights[++place] = height + many;
            }
        }
    }

    private int pick(int height, boolean last) {
        if (last) {
            return height > 0 ? Due.RETURN : Due.GO;
        }
        int[] common = {Due.NUMBER, Due.LOAD, Due.TWICE, Due.FUNCTION, Due.JOIN, Due.CALL, Due.APPLY, Due.SAY,
            Due.STORE, Due.ZERO};
        for (int turn = 0; turn < 20; turn++) {
            int word = random.nextInt(3) == 0 ? random.nextInt(16) : common[random.nextInt(common.length)];
            if (word == Due.RETURN || word == Due.GO || word == Due.DROP) {
                continue;
            }
            boolean pops = word == Due.ADD || word == Due.LESS || word == Due.TIMES || word == Due.APPLY;
            int needs = pops ? 2 : word == Due.JOIN || word == Due.CALL || word == Due.FUNCTION ? 3 : 1;
            boolean free = word == Due.NUMBER || word == Due.LOAD;
            if (free ? height < 7 : height >= needs) {
                return word;
            }
        }
        return Due.LOAD;
    }

    /** An earlier place with the same height, or the next place. */
    private int target(int[] heights, int place, int height, int length) {
        int from = random.nextInt(place + 1);
        for (int k = from; k < place; k++) {
            if (heights[k] == height) {
                return k;
            }
        }
        return Math.min(place + 1 + random.nextInt(20) / 18, length - 1);
    }

    private int rise(int word, int a, int b) {
        boolean there = a >= 0 && a < model.functions.size();
        switch (word) {
            case Due.NUMBER:
            case Due.LOAD:
            case Due.TWICE:
                return 1;
            case Due.CALL:
                return there ? 1 - model.parameters.get(a) : 0;
            case Due.FUNCTION:
                return 1 - b;
            case Due.APPLY:
                return -a;
            case Due.JOIN:
                boolean known = a >= 0 && a < model.recipes.size();
                return known ? 1 - model.recipes.get(a).replaceAll("[a-z]", "").length() : 0;
            case Due.GO:
                return 0;
            default:
                return -1;
        }
    }
}
