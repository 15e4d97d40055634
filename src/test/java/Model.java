import java.util.ArrayList;
import java.util.List;
import java.util.TreeSet;

/**
 * The document told a second time, with Java's own objects and by recursion: the ways, a run of the first
 * code, and a run of the plainer code as it is read through the face.
 */
final class Model {
    final List<Integer> parameters = new ArrayList<>();
    final List<List<int[]>> functions = new ArrayList<>();
    final List<String> recipes = new ArrayList<>();

    StringBuilder output = new StringBuilder();
    int steps;
    Object returned;

    private Integer[] met;
    private int depth;
    private FeatureDesugarer plainer;

    /** A function value (of a function) or an object (of a class). */
    private static final class Held {
        final int type;
        final Object[] values;

        Held(int type, int many) {
            this.type = type;
            values = new Object[many];
            java.util.Arrays.fill(values, 0);
        }
    }

    private static final class Fault extends RuntimeException {
        private static final long serialVersionUID = 1L;
        final int number;

        Fault(int number) {
            super(null, null, false, false);
            this.number = number;
        }
    }

    int check() {
        for (int f = 0; f < functions.size(); f++) {
            int place = wrongPlace(f);
            if (place >= 0) {
                return 64 * f + place;
            }
        }
        return -1;
    }

    private int wrongPlace(int f) {
        List<int[]> code = functions.get(f);
        if (code.isEmpty()) {
            return 0;
        }
        for (int place = 0; place < code.size(); place++) {
            if (!inBounds(code.get(place), code.size())) {
                return place;
            }
        }
        met = new Integer[code.size()];
        TreeSet<Integer> waiting = new TreeSet<>();
        met[0] = 0;
        waiting.add(0);
        while (!waiting.isEmpty()) {
            int place = waiting.pollFirst();
            int[] i = code.get(place);
            int height = met[place] - needs(i);
            if (height < 0) {
                return place;
            }
            height += leaves(i[0]);
            if (height > 12) {
                return place;
            }
            List<Integer> next = new ArrayList<>();
            if (i[0] == Due.GO || i[0] == Due.ZERO) {
                next.add(i[1]);
            }
            if (i[0] != Due.GO && i[0] != Due.RETURN) {
                next.add(place + 1);
            }
            for (int to : next) {
                if (to == code.size() || met[to] != null && met[to] != height) {
                    return place;
                }
                if (met[to] == null) {
                    met[to] = height;
                    waiting.add(to);
                }
            }
        }
        return -1;
    }

    /** Of a function that is right: its greatest height, and that in the plainer code. */
    int[] greatestHeights(int f) {
        wrongPlace(f);
        int[] greatest = new int[2];
        for (int place = 0; place < met.length; place++) {
            if (met[place] != null) {
                int[] i = functions.get(f).get(place);
                int behind = met[place] - needs(i) + leaves(i[0]);
                int inGroup = behind;
                if (i[0] == Due.FUNCTION) {
                    inGroup = met[place] + 1;
                } else if (i[0] == Due.JOIN && holes(i[1]) > 0) {
                    inGroup = Math.max(met[place] - 1, behind + 1);
                }
                greatest[0] = Math.max(greatest[0], behind);
                greatest[1] = Math.max(greatest[1], inGroup);
            }
        }
        return greatest;
    }

    /** The plainer code of a function, each instruction written as word, a and b; classes go on from those so far. */
    String lowered(int f, int classes) {
        List<List<int[]>> groups = new ArrayList<>();
        for (int[] i : functions.get(f)) {
            groups.add(group(i, classes));
            classes += i[0] == Due.FUNCTION ? 1 : 0;
        }
        List<String> all = new ArrayList<>();
        for (List<int[]> group : groups) {
            for (int[] i : group) {
                boolean goes = i[0] == Due.GO || i[0] == Due.ZERO;
                int a = goes ? groups.subList(0, i[1]).stream().mapToInt(List::size).sum() : i[1];
                all.add(i[0] + " " + a + " " + i[2]);
            }
        }
        return String.join("; ", all);
    }

    private List<int[]> group(int[] i, int cls) {
        List<int[]> made = new ArrayList<>();
        if (i[0] == Due.FUNCTION) {
            made.add(new int[] {Due.NEW, cls, 0});
            for (int k = 0; i[2] > 0 && k <= i[2]; k++) {
                made.add(new int[] {Due.STORE, k == 0 ? 8 : 9 + i[2] - k, 0});
            }
            for (int k = 0; k < i[2]; k++) {
                if (k == 0) {
                    made.add(new int[] {Due.LOAD, 8, 0});
                }
                made.add(new int[] {Due.LOAD, 9 + k, 0});
                made.add(new int[] {Due.PUT, k, 0});
            }
        } else if (i[0] == Due.JOIN) {
            joinGroup(i[1], made);
        } else {
            made.add(new int[] {i[0] == Due.APPLY ? Due.INVOKE : i[0], i[1], 0});
        }
        return made;
    }

    private void joinGroup(int recipe, List<int[]> made) {
        for (int k = holes(recipe); k > 0; k--) {
            made.add(new int[] {Due.STORE, 7 + k, 0});
        }
        made.add(new int[] {Due.BEGIN, 0, 0});
        int letter = table().length() - String.join("", recipes.subList(recipe, recipes.size())).replace("_", "").length();
        int hole = 8;
        for (String part : recipes.get(recipe).split("(?<=_)|(?=_)")) {
            if (part.equals("_")) {
                made.add(new int[] {Due.LOAD, hole++, 0});
                made.add(new int[] {Due.APPEND, 0, 0});
            } else {
                made.add(new int[] {Due.CHARACTERS, letter, part.length()});
                letter += part.length();
            }
        }
    }

    /** All recipes' letters. */
    String table() {
        return String.join("", recipes).replace("_", "");
    }

    private boolean inBounds(int[] i, int length) {
        int a = i[1];
        if (i[0] == Due.LOAD || i[0] == Due.STORE) {
            return 0 <= a && a <= 7;
        }
        if (i[0] == Due.GO || i[0] == Due.ZERO) {
            return 0 <= a && a < length;
        }
        if (i[0] == Due.CALL || i[0] == Due.FUNCTION) {
            boolean there = 0 <= a && a < functions.size();
            return there && (i[0] == Due.CALL || 0 <= i[2] && i[2] <= parameters.get(a));
        }
        if (i[0] == Due.APPLY) {
            return 0 <= a && a <= 3;
        }
        return i[0] != Due.JOIN || 0 <= a && a < recipes.size();
    }

    private int holes(int recipe) {
        return (int) recipes.get(recipe).chars().filter(c -> c == '_').count();
    }

    private int needs(int[] i) {
        int[] fixed = {0, 0, 1, 2, 2, 2, 1, 1, 0, 1, -1, 1, 1, -1, -1, -1};
        if (fixed[i[0]] >= 0) {
            return fixed[i[0]];
        }
        if (i[0] == Due.CALL) {
            return parameters.get(i[1]);
        }
        return i[0] == Due.FUNCTION ? i[2] : i[0] == Due.APPLY ? i[1] + 1 : holes(i[1]);
    }

    private static int leaves(int word) {
        return new int[] {1, 1, 0, 1, 1, 1, 2, 0, 0, 0, 1, 0, 0, 1, 1, 1}[word];
    }

    /** A run of the first code, or, with an object, of the plainer code that it answers. */
    int run(int f, int[] xyz, FeatureDesugarer read) {
        output = new StringBuilder();
        steps = 0;
        depth = 0;
        returned = null;
        plainer = read;
        Object[] arguments = new Object[parameters.get(f)];
        for (int k = 0; k < arguments.length; k++) {
            arguments[k] = xyz[k];
        }
        try {
            returned = call(f, arguments);
            return 0;
        } catch (Fault fault) {
            return fault.number;
        }
    }

    int kind() {
        return returned == null ? 0 : returned instanceof Integer ? 1 : returned instanceof String ? 2 : 3;
    }

    int number() {
        return returned instanceof Integer ? (Integer) returned : 0;
    }

    private Object call(int f, Object[] arguments) {
        if (depth == 30) {
            throw new Fault(3);
        }
        depth++;
        Object[] locals = new Object[20];
        java.util.Arrays.fill(locals, 0);
        System.arraycopy(arguments, 0, locals, 0, arguments.length);
        Object result = plainer == null ? first(f, locals) : plain(f, locals);
        depth--;
        return result;
    }

    private void step() {
        if (steps == 400) {
            throw new Fault(4);
        }
        steps++;
    }

    private Object first(int f, Object[] locals) {
        List<Object> stack = new ArrayList<>();
        int place = 0;
        while (true) {
            step();
            int[] i = functions.get(f).get(place);
            if (i[0] == Due.RETURN) {
                return pop(stack);
            }
            place = i[0] < Due.FUNCTION ? shared(i[0], i[1], place, locals, stack) : place + 1;
            if (i[0] == Due.FUNCTION) {
                Held held = new Held(i[1], i[2]);
                System.arraycopy(pops(stack, i[2]), 0, held.values, 0, i[2]);
                stack.add(held);
            } else if (i[0] == Due.APPLY) {
                Object[] others = pops(stack, i[1]);
                Object value = pop(stack);
                if (!(value instanceof Held)) {
                    throw new Fault(1);
                }
                stack.add(apply((Held) value, ((Held) value).type, others));
            } else if (i[0] == Due.JOIN) {
                stack.add(join(recipes.get(i[1]), pops(stack, holes(i[1]))));
            }
        }
    }

    private Object apply(Held held, int f, Object[] others) {
        if (held.values.length + others.length != parameters.get(f)) {
            throw new Fault(2);
        }
        Object[] all = java.util.Arrays.copyOf(held.values, parameters.get(f));
        System.arraycopy(others, 0, all, held.values.length, others.length);
        return call(f, all);
    }

    private static String join(String recipe, Object[] values) {
        StringBuilder text = new StringBuilder();
        int hole = 0;
        for (char c : recipe.toCharArray()) {
            text.append(c == '_' ? textOf(values[hole++]) : String.valueOf(c));
        }
        return fitting(text.toString());
    }

    private static String fitting(String text) {
        if (text.length() > 200) {
            throw new Fault(5);
        }
        return text;
    }

    /** Which instructions are steps is counted from the first code: by where each group begins. */
    private boolean[] heads(int f) {
        boolean[] heads = new boolean[plainer.size(f, 1)];
        int at = 0;
        for (int[] i : functions.get(f)) {
            heads[at] = true;
            if (i[0] == Due.FUNCTION) {
                at += i[2] == 0 ? 1 : 3 + 3 * i[2];
            } else if (i[0] == Due.JOIN) {
                String letters = recipes.get(i[1]).replaceAll("[a-z]+", "x").replace("_", "");
                at += 1 + 3 * holes(i[1]) + letters.length();
            } else {
                at++;
            }
        }
        return heads;
    }

    private Object plain(int f, Object[] locals) {
        List<Object> stack = new ArrayList<>();
        boolean[] heads = heads(f);
        int place = 0;
        while (true) {
            if (heads[place]) {
                step();
            }
            int word = plainer.plain(f, place, 0);
            int a = plainer.plain(f, place, 1);
            int b = plainer.plain(f, place, 2);
            if (word == Due.RETURN) {
                return pop(stack);
            }
            if (word <= Due.SAY) {
                place = shared(word, a, place, locals, stack);
            } else {
                plainWord(word, a, b, stack);
                place++;
            }
        }
    }

    private void plainWord(int word, int a, int b, List<Object> stack) {
        if (word == Due.NEW) {
            stack.add(new Held(a, plainer.made(a, 0)));
        } else if (word == Due.PUT) {
            Object value = pop(stack);
            ((Held) stack.get(stack.size() - 1)).values[a] = value;
        } else if (word == Due.INVOKE) {
            Object[] others = pops(stack, a);
            Object object = pop(stack);
            if (!(object instanceof Held)) {
                throw new Fault(1);
            }
            stack.add(apply((Held) object, plainer.made(((Held) object).type, 1), others));
        } else if (word == Due.BEGIN) {
            stack.add("");
        } else if (word == Due.CHARACTERS) {
            StringBuilder text = new StringBuilder((String) pop(stack));
            for (int k = 0; k < b; k++) {
                text.append((char) ('a' + plainer.character(a + k)));
            }
            stack.add(fitting(text.toString()));
        } else if (word == Due.APPEND) {
            Object value = pop(stack);
            stack.add(fitting(pop(stack) + textOf(value)));
        } else {
            throw new IllegalStateException("a word that no function may have: " + word);
        }
    }

    private static Object pop(List<Object> stack) {
        return stack.remove(stack.size() - 1);
    }

    private static Object[] pops(List<Object> stack, int many) {
        List<Object> top = stack.subList(stack.size() - many, stack.size());
        Object[] values = top.toArray();
        top.clear();
        return values;
    }

    private static String textOf(Object value) {
        return value instanceof Held ? "f" : String.valueOf(value);
    }

    /** A word of both codes but RETURN: the place behind it. */
    private int shared(int word, int a, int place, Object[] locals, List<Object> stack) {
        if (word == Due.NUMBER) {
            stack.add(a);
        } else if (word == Due.LOAD) {
            stack.add(locals[a]);
        } else if (word == Due.STORE) {
            locals[a] = pop(stack);
        } else if (word <= Due.TIMES) {
            Object[] two = pops(stack, 2);
            if (!(two[0] instanceof Integer) || !(two[1] instanceof Integer)) {
                throw new Fault(1);
            }
            int l = (Integer) two[0];
            int u = (Integer) two[1];
            stack.add(word == Due.ADD ? l + u : word == Due.LESS ? l - u : l * u);
        } else if (word == Due.TWICE) {
            stack.add(stack.get(stack.size() - 1));
        } else if (word == Due.DROP) {
            pop(stack);
        } else if (word == Due.GO) {
            return a;
        } else if (word == Due.ZERO) {
            Object value = pop(stack);
            if (!(value instanceof Integer)) {
                throw new Fault(1);
            }
            return value.equals(0) ? a : place + 1;
        } else if (word == Due.CALL) {
            stack.add(call(a, pops(stack, parameters.get(a))));
        } else if (word == Due.SAY) {
            String text = textOf(pop(stack));
            fitting(output + text);
            output.append(text);
        }
        return place + 1;
    }
}
