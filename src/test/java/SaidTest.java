/** Promise 14: the characters of the latest run's output. */
public final class SaidTest {
    public static void main(String[] args) {
        FeatureDesugarer x = new FeatureDesugarer();
        Due.argument("said(0) without a run", () -> x.said(0));
        Due.argument("said(-1) without a run", () -> x.said(-1));
        Due.recipe(x, "az_");
        Due.function(x, 1, Due.LOAD, 0, 0, Due.JOIN, 0, 0, Due.SAY, 0, 0, Due.FUNCTION, 0, 0, Due.SAY, 0, 0,
                Due.NUMBER, 0, 0, Due.RETURN, 0, 0);
        Due.function(x, 0, Due.NUMBER, 0, 0, Due.RETURN, 0, 0);
        x.lower();
        int[] want = {'a', 'z', '-', '9', '0', 'f'};
        for (int code = 0; code < 2; code++) {
            boolean plainer = code == 1;
            x.run(0, -90, 0, 0, plainer);
            for (int k = 0; k < want.length; k++) {
                Due.answer("said(" + k + ")", x.said(k), want[k]);
            }
            Due.argument("said(6)", () -> x.said(6));
            Due.argument("said(-1)", () -> x.said(-1));
            x.run(0, 1, 0, 0, plainer);
            Due.text("another run's output", Due.output(x), "az1f");
            Due.argument("said(4)", () -> x.said(4));
            x.run(1, 0, 0, 0, plainer);
            Due.argument("said(0) of a run that says nothing", () -> x.said(0));
        }
        x.run(0, 1, 0, 0, true);
        x.recipe(1);
        Due.state("run", () -> x.run(1, 0, 0, 0, true));
        Due.text("of the latest run, whatever came behind it", Due.output(x), "az1f");
        Due.end();
    }
}
