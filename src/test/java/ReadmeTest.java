import java.io.IOException;
import java.nio.file.Files;
import java.nio.file.Path;

/** The README's example answers what the README says, and the README tells of every call. */
public final class ReadmeTest {
    public static void main(String[] args) throws IOException {
        theExample();
        String readme = Files.readString(Path.of("README.md"));
        for (String call : new String[] {"function(", "code(", "recipe(", "check(", "lower(", "count(", "size(", "plain(",
            "made(", "character(", "run(", "told(", "said(", "NONE", ".ci/run"}) {
            Due.answer("README.md tells of " + call, readme.contains(call) ? 1 : 0, 1);
        }
        for (String line : new String[] {"x.recipe(1 + 27 * 32);", "x.function(1);", "x.code(f, 1, 0, 0);",
            "x.code(f, 15, letter, 0);", "x.code(f, 6, 0, 0);", "x.code(f, 12, 0, 0);", "x.code(f, 11, 0, 0);",
            "x.run(f, 42, 0, 0, true);"}) {
            Due.answer("README.md's example has " + line, readme.contains(line) ? 1 : 0, 1);
        }
        Due.end();
    }

    private static void theExample() {
        FeatureDesugarer x = new FeatureDesugarer();
        int letter = x.recipe(1 + 27 * 32);
        int f = x.function(1);
        x.code(f, 1, 0, 0);
        x.code(f, 15, letter, 0);
        x.code(f, 6, 0, 0);
        x.code(f, 12, 0, 0);
        x.code(f, 11, 0, 0);
        Due.answer("check()", x.check(), FeatureDesugarer.NONE);
        Due.answer("lower()", x.lower(), 9);
        Due.answer("run", x.run(f, 42, 0, 0, true), 0);
        Due.answer("told(0)", x.told(0), 3);
        Due.answer("said(0)", x.said(0), 97);
        Due.text("output", Due.output(x), "a42");
        Due.answer("told(3)", x.told(3), 2);
    }
}
