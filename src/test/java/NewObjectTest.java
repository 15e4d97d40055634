/** Promise 1: a new object has no functions and no recipes. */
public final class NewObjectTest {
    public static void main(String[] args) {
        FeatureDesugarer x = new FeatureDesugarer();
        Due.answer("NONE", FeatureDesugarer.NONE, -1);
        Due.answer("count(0)", x.count(0), 0);
        Due.answer("count(1)", x.count(1), 0);
        Due.state("count(2)", () -> x.count(2));
        Due.state("count(3)", () -> x.count(3));
        for (int what = 0; what <= 3; what++) {
            Due.answer("told(" + what + ")", x.told(what), 0);
        }
        Due.argument("said(0)", () -> x.said(0));
        Due.argument("size(0, 0)", () -> x.size(0, 0));
        Due.argument("plain(0, 0, 0)", () -> x.plain(0, 0, 0));
        Due.argument("run(0, ..)", () -> x.run(0, 0, 0, 0, false));
        Due.state("made(0, 0)", () -> x.made(0, 0));
        Due.state("character(0)", () -> x.character(0));
        Due.answer("check()", x.check(), -1);
        Due.answer("lower()", x.lower(), 0);
        Due.answer("count(2) behind lower()", x.count(2), 0);
        Due.answer("count(3) behind lower()", x.count(3), 0);
        objectsAreApart();
        Due.end();
    }

    private static void objectsAreApart() {
        FeatureDesugarer x = new FeatureDesugarer();
        FeatureDesugarer y = new FeatureDesugarer();
        x.function(0);
        x.recipe(1);
        Due.answer("another object's count(0)", y.count(0), 0);
        Due.answer("another object's count(1)", y.count(1), 0);
    }
}
