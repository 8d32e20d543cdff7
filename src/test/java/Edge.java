import java.math.BigInteger;
import java.util.stream.IntStream;

/** Models at the edges of what the document allows, and numbers just beyond what calls take. */
final class Edge {
    /** Every world of 24. */
    static final int ALL_24 = 0xffffff;
    static final int[] NO_ATOMS = {-1, 64, 65, 127, Integer.MIN_VALUE, Integer.MAX_VALUE};
    static final int[] NO_ATOM = {-1, 6, 7, 31, 32, 37, Integer.MIN_VALUE, Integer.MAX_VALUE};
    static final int[] NO_AGENT = {-1, 4, 5, 31, 32, 35, Integer.MIN_VALUE, Integer.MAX_VALUE};
    static final int[] NO_GROUP = {0, 16, 17, 31, -1, Integer.MIN_VALUE, Integer.MAX_VALUE};

    /** A call, or several, whose answers are looked at. */
    interface Calls {
        Object on(KnowledgeModel x);
    }

    private final Check check = new Check();

    void due(String what, Object got, Object want) {
        check.due(what, got, want);
    }

    void end(String name) {
        check.end(name);
    }

    /**
     * On a model of so many worlds and formulas, the call must throw just this class of exception,
     * and all later calls must answer as they do on a model on which it was never made.
     */
    private void refused(String what, Class<?> want, int worlds, int formulas, Calls call) {
        KnowledgeModel x = model(worlds, formulas);
        KnowledgeModel untouched = model(worlds, formulas);
        String told = what + " (with " + worlds + " worlds, " + formulas + " formulas)";
        check.due(told, Check.outcome(() -> call.on(x)), "throws " + want.getName());
        check.due("what comes after the refused " + told, later(x), later(untouched));
    }

    void outside(String what, int worlds, int formulas, Calls call) {
        refused(what, IndexOutOfBoundsException.class, worlds, formulas, call);
    }

    void illegal(String what, int worlds, int formulas, Calls call) {
        refused(what, IllegalArgumentException.class, worlds, formulas, call);
    }

    void untimely(String what, int worlds, int formulas, Calls call) {
        refused(what, IllegalStateException.class, worlds, formulas, call);
    }

    /** Numbers that are no worlds, or no formulas, where there are so many of them. */
    static int[] noneOf(int count) {
        return IntStream.of(-1, count, count + 1, 24, 31, 32, 40, 63, 64, count + 64,
                Integer.MIN_VALUE, Integer.MAX_VALUE).filter(k -> k < 0 || k >= count).distinct().toArray();
    }

    /**
     * A model of so many worlds and formulas, the same each time. Formula 0 is true at the actual
     * world, which is 0, and 1 is false there; the nesting of 2 is 1, that of 3, 4 and 5 is 2.
     */
    static KnowledgeModel model(int worlds, int formulas) {
        KnowledgeModel x = new KnowledgeModel();
        for (int w = 0; w < worlds; w++) {
            x.addWorld((w * 5 + 33) % 64);
        }
        for (int w = 0; w < worlds; w++) {
            x.connect(w % 4, w, (w * 7 + 2) % worlds, true);
        }
        for (int f = 0; f < formulas; f++) {
            addFormula(x, f);
        }
        return x;
    }

    private static void addFormula(KnowledgeModel x, int number) {
        switch (number) {
            case 0 -> x.atom(0);
            case 1 -> x.not(0);
            case 2 -> x.after(0, 1);
            case 3 -> x.after(2, 0);
            case 4 -> x.after(0, 2);
            case 5 -> x.after(2, 2);
            case 6 -> x.knows(3, 0);
            case 7 -> x.ofGroup(true, 15, 1);
            case 8 -> x.ofGroup(false, 8, 0);
            case 9 -> x.both(3, 8);
            default -> x.atom(number % 6);
        }
    }

    /** What calls answer from now on: as the model is, filled to its limits, and changed. */
    private static String later(KnowledgeModel x) {
        StringBuilder text = new StringBuilder();
        tell(text, x);
        int worlds = x.worldCount();
        for (int w = worlds; w < 24; w++) {
            text.append(' ').append(x.addWorld(w));
        }
        for (int f = x.formulaCount(); f < 40; f++) {
            text.append(' ').append(x.atom(f % 6));
        }
        text.append(" full: ").append(x.digest());
        for (int w = 0; w < 24; w++) {
            x.setAtoms(w, w * 11 % 64);
            for (int i = 0; i < 4; i++) {
                x.connect(i, w, (w * (i + 2) + 1) % 24, true);
            }
        }
        tell(text, x);
        text.append(' ').append(x.contract()).append(' ').append(x.prune()).append(' ').append(x.digest());
        return text.toString();
    }

    private static void tell(StringBuilder text, KnowledgeModel x) {
        text.append(' ').append(x.digest());
        for (int f = 0; f < x.formulaCount(); f++) {
            text.append(' ').append(x.where(f));
        }
    }

    /** The checksum of these numbers without any limit, and only then wrapped to 64 bits. */
    static long digestOf(int... numbers) {
        return unwrapped(numbers).longValue();
    }

    static BigInteger unwrapped(int... numbers) {
        BigInteger d = BigInteger.valueOf(127);
        for (int number : numbers) {
            d = d.multiply(BigInteger.valueOf(31)).add(BigInteger.valueOf(number));
        }
        return d;
    }

    /** A model of so many worlds, all with these atoms. */
    static KnowledgeModel same(int worlds, int atoms) {
        KnowledgeModel x = new KnowledgeModel();
        for (int w = 0; w < worlds; w++) {
            x.addWorld(atoms);
        }
        return x;
    }

    /** A model of so many worlds without atoms, each but the last with an arrow of an agent to the next. */
    static KnowledgeModel chain(int agent, int worlds) {
        KnowledgeModel x = same(worlds, 0);
        for (int w = 0; w + 1 < worlds; w++) {
            x.connect(agent, w, w + 1, true);
        }
        return x;
    }
}
