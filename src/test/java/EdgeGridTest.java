import java.util.ArrayList;
import java.util.List;
import java.util.stream.IntStream;

/**
 * Every method with every choice of arguments from the edges of what it takes and just beyond, on
 * models at the edges of what they hold, held against PlainModel: which exception is thrown where
 * several apply, that a refused call changes nothing, and what the allowed ones answer.
 */
public final class EdgeGridTest {
    private static final int[] WORLDS = {0, 1, 2, 12, 13, 23, 24};
    private static final int[] FORMULAS = {0, 1, 2, 7, 39, 40};
    /** An object is used for at most 512 calls: up to 90 make the model, and two digests go with each other one. */
    private static final int MOST_CALLS = 120;

    /**
     * Each method and its arguments: A atoms, i agent, g group, w world, W set of worlds, p atom,
     * f formula, b boolean.
     */
    private static final String[] METHODS = {
        "addWorld A", "setAtoms wA", "connect iwwb", "gather iW", "setActual w", "actual -", "worldCount -",
        "atoms w", "seen iw", "arrowCount i", "shape i", "atom p", "not f", "both ff", "knows if", "ofGroup bgf",
        "after ff", "formulaCount -", "depth f", "nesting f", "where f", "holds f", "share f", "decided i",
        "reached gw", "areAlike ww", "announce f", "tell gf", "whisper gf", "contract -", "prune -", "digest -"
    };

    private static final Check check = new Check();

    private final int worlds;
    private final int formulas;
    private final int actual;
    private KnowledgeModel x;
    private PlainModel plain;
    private long digest;
    private int calls;

    private EdgeGridTest(int worlds, int formulas, int actual) {
        this.worlds = worlds;
        this.formulas = formulas;
        this.actual = actual;
    }

    public static void main(String[] args) throws ReflectiveOperationException {
        for (int worlds : WORLDS) {
            for (int formulas : FORMULAS) {
                new EdgeGridTest(worlds, formulas, 0).run();
            }
            // The last world is the actual one; there, formula 0 may be false and 1 true.
            new EdgeGridTest(worlds, 40, worlds - 1).run();
        }
        check.end("EdgeGridTest");
    }

    private void run() throws ReflectiveOperationException {
        makeBoth();
        for (String method : METHODS) {
            String[] parts = method.split(" ");
            for (Object[] arguments : choices(parts[1])) {
                ask(parts[0], arguments);
            }
        }
    }

    private void ask(String name, Object[] arguments) throws ReflectiveOperationException {
        String told = worlds + " worlds, " + formulas + " formulas, actual " + actual + ": "
                + name + List.of(arguments);
        Object want = Check.outcome(plain, name, arguments);
        check.due(told, Check.outcome(x, name, arguments), want);
        check.due(told + ", then digest()", x.digest(), plain.digest());
        if (want.toString().startsWith("throws")) {
            check.due(told + ", digest() as before", x.digest(), digest);
        }
        calls++;
        if (plain.digest() != digest || calls == MOST_CALLS) {
            makeBoth();
        }
    }

    private void makeBoth() throws ReflectiveOperationException {
        x = new KnowledgeModel();
        plain = new PlainModel();
        for (Object on : new Object[] {x, plain}) {
            make(on);
        }
        digest = plain.digest();
        calls = 0;
    }

    private void make(Object on) throws ReflectiveOperationException {
        for (int w = 0; w < worlds; w++) {
            Check.outcome(on, "addWorld", (w * 5 + 33) % 64);
        }
        for (int w = 0; w < worlds; w++) {
            Check.outcome(on, "connect", w % 4, w, (w * 7 + 2) % worlds, true);
        }
        Check.outcome(on, "setActual", actual);
        Object[][] first = {{"atom", 0}, {"not", 0}, {"after", 0, 1}, {"after", 2, 0}, {"knows", 3, 0},
            {"ofGroup", true, 15, 1}, {"ofGroup", false, 8, 4}};
        for (int f = 0; f < formulas; f++) {
            Object[] call = f < first.length ? first[f] : new Object[] {"both", f % 7, f - 1};
            Object[] arguments = java.util.Arrays.copyOfRange(call, 1, call.length);
            check.due("the number of a formula", Check.outcome(on, (String) call[0], arguments), f);
        }
    }

    private List<Object[]> choices(String kinds) {
        List<Object[]> result = new ArrayList<>();
        result.add(new Object[0]);
        for (char kind : kinds.equals("-") ? new char[0] : kinds.toCharArray()) {
            List<Object[]> longer = new ArrayList<>();
            for (Object[] start : result) {
                for (Object next : edges(kind)) {
                    Object[] both = java.util.Arrays.copyOf(start, start.length + 1);
                    both[start.length] = next;
                    longer.add(both);
                }
            }
            result = longer;
        }
        return result;
    }

    private List<Object> edges(char kind) {
        int all = (1 << worlds) - 1;
        return switch (kind) {
            case 'A' -> numbers(-1, 0, 63, 64);
            case 'i' -> numbers(-1, 0, 3, 4);
            case 'g' -> numbers(-1, 0, 1, 8, 15, 16);
            case 'w' -> numbers(-1, 0, worlds - 1, worlds, 24);
            case 'W' -> numbers(0, 1, all, all + 1, 2 * all + 1, 1 << 23, 1 << 24, -1);
            case 'p' -> numbers(-1, 0, 5, 6);
            case 'f' -> numbers(-1, 0, 1, 2, 3, formulas - 1, formulas, 40);
            default -> List.of(true, false);
        };
    }

    private static List<Object> numbers(int... edges) {
        IntStream all = IntStream.concat(IntStream.of(edges), IntStream.of(Integer.MIN_VALUE, Integer.MAX_VALUE));
        return new ArrayList<>(all.distinct().boxed().toList());
    }
}
