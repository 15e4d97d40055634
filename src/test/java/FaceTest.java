import java.io.IOException;
import java.lang.reflect.Constructor;
import java.lang.reflect.Field;
import java.lang.reflect.Method;
import java.lang.reflect.Modifier;
import java.nio.file.Files;
import java.nio.file.Path;
import java.util.ArrayList;
import java.util.List;
import java.util.Set;
import java.util.TreeSet;

/** The public face of the document, and those rules of the language that can be read from the class itself. */
public final class FaceTest {
    private static final String FILE = "src/main/java/FeatureDesugarer.java";

    private static final String[] FACE = {
        "public static final int NONE",
        "public FeatureDesugarer()",
        "public int function(int) throws IllegalArgumentException, IllegalStateException",
        "public int code(int, int, int, int) throws IllegalArgumentException, IllegalStateException",
        "public int recipe(long) throws IllegalArgumentException, IllegalStateException",
        "public int check()",
        "public int lower()",
        "public int count(int) throws IllegalArgumentException, IllegalStateException",
        "public int size(int, int) throws IllegalArgumentException, IllegalStateException",
        "public int plain(int, int, int) throws IllegalArgumentException, IllegalStateException",
        "public int made(int, int) throws IllegalArgumentException, IllegalStateException",
        "public int character(int) throws IllegalArgumentException, IllegalStateException",
        "public int run(int, int, int, int, boolean) throws IllegalArgumentException, IllegalStateException",
        "public int told(int) throws IllegalArgumentException",
        "public int said(int) throws IllegalArgumentException",
    };

    private static final String[] STRANGE = {"->", "::", "finally", "synchronized", "assert ", "getMessage", "Random",
        "System.currentTimeMillis", "System.nanoTime", "Exact(", "hashCode", "toString", "package "};

    public static void main(String[] args) throws IOException {
        theFace();
        namesOfPrivateMethods();
        classesInside();
        theSource();
        Due.end();
    }

    private static void theFace() {
        Class<?> c = FeatureDesugarer.class;
        Due.text("the class", Modifier.toString(c.getModifiers()), "public final");
        Due.text("the class above it", c.getSuperclass().getName(), "java.lang.Object");
        Due.answer("interfaces of the class", c.getInterfaces().length, 0);
        Set<String> got = new TreeSet<>();
        for (Field f : c.getDeclaredFields()) {
            if (!Modifier.isPrivate(f.getModifiers())) {
                got.add(plainly(f.toString()));
            }
        }
        for (Constructor<?> n : c.getDeclaredConstructors()) {
            got.add(plainly(n.toString()));
        }
        for (Method m : c.getDeclaredMethods()) {
            if (!Modifier.isPrivate(m.getModifiers())) {
                got.add(plainly(m.toString()));
            }
        }
        Due.text("the face", String.join("\n", got), String.join("\n", new TreeSet<>(List.of(FACE))));
    }

    /** As the document writes it: without packages, and methods without their class. */
    private static String plainly(String member) {
        return member.replace("java.lang.", "").replace("FeatureDesugarer.", "").replaceAll(", *", ",")
                .replaceAll(",", ", ");
    }

    private static void namesOfPrivateMethods() {
        Set<String> open = new TreeSet<>();
        for (Method m : FeatureDesugarer.class.getMethods()) {
            open.add(m.getName());
        }
        for (Class<?> c : allClasses()) {
            for (Method m : c.getDeclaredMethods()) {
                boolean bears = Modifier.isPrivate(m.getModifiers()) && open.contains(m.getName());
                Due.text("a private method", bears ? m.getName() : "", "");
                Due.answer(m.getName() + ": too many parameters", Math.max(0, m.getParameterCount() - 7), 0);
            }
        }
    }

    private static List<Class<?>> allClasses() {
        List<Class<?>> all = new ArrayList<>(List.of(FeatureDesugarer.class.getDeclaredClasses()));
        all.add(FeatureDesugarer.class);
        return all;
    }

    private static void classesInside() {
        for (Class<?> c : FeatureDesugarer.class.getDeclaredClasses()) {
            String name = c.getSimpleName();
            Due.answer(name + " is static", Modifier.isStatic(c.getModifiers()) ? 1 : 0, 1);
            boolean open = Modifier.isPublic(c.getModifiers()) || Modifier.isProtected(c.getModifiers());
            Due.answer(name + " is public or protected", open ? 1 : 0, 0);
            Due.answer(name + ": classes inside it", c.getDeclaredClasses().length, 0);
        }
        Due.answer("too many classes", Math.max(0, allClasses().size() - 12), 0);
        for (Class<?> c : allClasses()) {
            int own = 0;
            for (Field f : c.getDeclaredFields()) {
                if (Modifier.isStatic(f.getModifiers())) {
                    Due.answer(f + " is final", Modifier.isFinal(f.getModifiers()) ? 1 : 0, 1);
                } else {
                    own++;
                }
            }
            Due.answer(c.getSimpleName() + ": too many fields", Math.max(0, own - 20), 0);
        }
    }

    private static void theSource() throws IOException {
        List<String> lines = Files.readAllLines(Path.of(FILE));
        for (int k = 0; k < lines.size(); k++) {
            String line = lines.get(k);
            String at = FILE + ":" + (k + 1);
            if (line.startsWith("import ")) {
                Due.text(at, line, "import java.util.Arrays;");
            }
            for (String strange : STRANGE) {
                Due.answer(at + " has " + strange, line.contains(strange) ? 1 : 0, 0);
            }
            if (line.contains("throw new ")) {
                boolean known = line.trim().equals("throw new IllegalArgumentException();")
                        || line.trim().equals("throw new IllegalStateException();");
                Due.answer(at + " throws what the face has", known ? 1 : 0, 1);
            }
        }
        methodsAreShort(lines);
    }

    /** A method's lines stand four columns in, or eight in a class inside. */
    private static void methodsAreShort(List<String> lines) {
        String margin = "    ";
        int begun = 0;
        int methods = 0;
        for (int k = 0; k < lines.size(); k++) {
            String line = lines.get(k);
            if (line.matches(" {4}private (static final class|interface) .*\\{")) {
                margin = "        ";
            } else if (line.startsWith(margin) && line.matches(margin + "[a-z@].*\\(.*[^;]")) {
                begun = k;
            } else if (line.equals(margin + "}")) {
                methods++;
                Due.answer(FILE + ":" + (k + 1) + ": a method's lines above sixty", Math.max(0, k - begun - 59), 0);
            } else if (line.equals("    }")) {
                margin = "    ";
            }
        }
        Due.answer("methods that were looked at, enough", Math.min(methods, 100), 100);
    }
}
