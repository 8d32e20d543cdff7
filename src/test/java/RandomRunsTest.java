import java.util.ArrayList;
import java.util.List;
import java.util.Random;

/** All promises: long runs of drawn calls (the same each time), held against PlainModel. */
public final class RandomRunsTest {
    private static final int RUNS = 400;
    private static final int CALLS = 250;

    /**
     * Each method, how often it is drawn while a model grows and later on, and its arguments:
     * A atoms, i agent, g group, w world, W set of worlds, p atom, f formula, b boolean.
     */
    private static final String[] METHODS = {
        "addWorld 30 6 A", "setAtoms 2 2 wA", "connect 20 6 iwwb", "gather 12 4 iW", "setActual 2 3 w",
        "actual 1 1 -", "worldCount 1 1 -", "atoms 1 1 w", "seen 1 1 iw", "arrowCount 1 1 i", "shape 2 2 i",
        "atom 8 2 p", "not 5 2 f", "both 4 2 ff", "knows 6 2 if", "ofGroup 6 2 bgf", "after 6 2 ff",
        "formulaCount 1 1 -", "depth 1 1 f", "nesting 1 1 f", "where 8 12 f", "holds 2 4 f", "share 1 2 f",
        "decided 1 3 i", "reached 1 3 gw", "areAlike 1 3 ww", "announce 0 1 f", "tell 0 2 gf",
        "whisper 0 3 gf", "contract 0 1 -", "prune 0 1 -", "digest 1 1 -"
    };

    private static final Check check = new Check();
    private static final Random random = new Random(20261118);

    public static void main(String[] args) throws ReflectiveOperationException {
        for (int run = 0; run < RUNS; run++) {
            run(run);
        }
        check.end("RandomRunsTest");
    }

    private static void run(int number) throws ReflectiveOperationException {
        KnowledgeModel x = new KnowledgeModel();
        PlainModel plain = new PlainModel();
        int growing = random.nextInt(150);
        int wrongShare = number % 3 == 0 ? 10 : 200;
        // Few atoms make more worlds alike.
        int atomBound = number % 2 == 0 ? 64 : 4;
        for (int k = 0; k < CALLS; k++) {
            String[] method = draw(k < growing).split(" ");
            Object[] arguments = arguments(method[3], plain, wrongShare, atomBound);
            String told = "run " + number + ", call " + k + ": " + method[0] + List.of(arguments);
            Object want = Check.outcome(plain, method[0], arguments);
            check.due(told, Check.outcome(x, method[0], arguments), want);
            check.due(told + ", then digest()", x.digest(), plain.digest());
        }
    }

    private static String draw(boolean isGrowing) {
        int column = isGrowing ? 1 : 2;
        int sum = 0;
        for (String m : METHODS) {
            sum += Integer.parseInt(m.split(" ")[column]);
        }
        int left = random.nextInt(sum);
        for (String m : METHODS) {
            left -= Integer.parseInt(m.split(" ")[column]);
            if (left < 0) {
                return m;
            }
        }
        throw new IllegalStateException();
    }

    private static Object[] arguments(String kinds, PlainModel plain, int wrongShare, int atomBound) {
        List<Object> result = new ArrayList<>();
        for (char kind : kinds.toCharArray()) {
            int worlds = plain.worldCount();
            int formulas = plain.formulaCount();
            switch (kind) {
                case 'A' -> result.add(number(0, 64, atomBound, wrongShare));
                case 'i' -> result.add(number(0, 4, 4, wrongShare));
                case 'g' -> result.add(number(1, 16, 16, wrongShare));
                case 'w' -> result.add(number(0, worlds, worlds, wrongShare));
                case 'W' -> result.add(number(0, 1 << worlds, 1 << worlds, wrongShare) & thinning());
                case 'p' -> result.add(number(0, 6, 6, wrongShare));
                case 'f' -> result.add(number(0, formulas, formulas, wrongShare));
                case 'b' -> result.add(random.nextInt(4) != 0);
                default -> { }
            }
        }
        return result.toArray();
    }

    /** Half of the sets of worlds stay as drawn, the others lose some of their members. */
    private static int thinning() {
        return random.nextBoolean() ? -1 : random.nextInt();
    }

    /** A number from least to below the bound, or now and then one beyond the limit. */
    private static int number(int least, int limit, int bound, int wrongShare) {
        if (random.nextInt(wrongShare) == 0 || bound <= least) {
            int[] odd = {least - 1, limit, limit + 1, -1, 24, 31, 32, 40, 1 << 24, Integer.MIN_VALUE, Integer.MAX_VALUE};
            return odd[random.nextInt(odd.length)];
        }
        // New formulas are built on late ones more often than on early ones.
        return least + Math.max(random.nextInt(bound - least), random.nextInt(bound - least));
    }
}
