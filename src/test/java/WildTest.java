import java.util.Random;

/** Any call in any state answers, or throws one of the two exceptions and changes nothing. */
public final class WildTest {
    private static final int[] WILD = {Integer.MIN_VALUE, -1, 0, 1, 2, 3, 4, 7, 8, 11, 12, 15, 16, 39, 40, 41,
        Integer.MAX_VALUE};

    public static void main(String[] args) {
        for (int seed = 0; seed < 300; seed++) {
            Random random = new Random(seed);
            FeatureDesugarer x = new FeatureDesugarer();
            for (int k = 0; k < 512; k++) {
                int call = random.nextInt(16);
                int[] numbers = {number(random), number(random), number(random), number(random)};
                long characters = random.nextInt(3) == 0 ? random.nextLong() : random.nextInt(1 << random.nextInt(30));
                String before = Due.whole(x);
                try {
                    answer(x, call, numbers, characters, random.nextBoolean());
                } catch (IllegalArgumentException | IllegalStateException e) {
                    Due.text("seed " + seed + ": the state behind call " + call + " that threw", Due.whole(x), before);
                } catch (RuntimeException e) {
                    Due.text("seed " + seed + ": call " + call, e.toString(), "an answer");
                }
            }
        }
        Due.end();
    }

    private static int number(Random random) {
        return random.nextInt(3) == 0 ? WILD[random.nextInt(WILD.length)] : random.nextInt(6);
    }

    private static int answer(FeatureDesugarer x, int call, int[] n, long characters, boolean plainer) {
        switch (call) {
            case 0:
                return x.function(n[0]);
            case 1:
                return x.recipe(characters);
            case 2:
                return x.check();
            case 3:
                return x.count(n[0]);
            case 4:
                return x.size(n[0], n[1]);
            case 5:
                return x.plain(n[0], n[1], n[2]);
            case 6:
                return x.made(n[0], n[1]);
            case 7:
                return x.character(n[0]);
            case 8:
                return x.run(n[0], n[1], n[2], n[3], plainer);
            case 9:
                return x.told(n[0]);
            case 10:
                return x.said(n[0]);
            case 11:
                return x.lower();
            case 12:
                return small(x, n);
            default:
                return x.code(n[0], n[1], n[2], n[3]);
        }
    }

    /** A function that is right, so that some wild objects can be lowered and run. */
    private static int small(FeatureDesugarer x, int[] n) {
        int f = x.function(n[0] & 3);
        Due.write(x, f, Due.NUMBER, n[1], 0, Due.SAY, 0, 0, Due.FUNCTION, f, 0, Due.RETURN, 0, 0);
        return x.lower();
    }
}
