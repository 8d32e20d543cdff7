import java.lang.management.ManagementFactory;

/** Dear runs of up to 512 calls: they must end soon, and stay far below the room of one run. */
public final class DearestRunTest {
    /** The model and its formulas take 95 calls more, so that no object is used for more than 512. */
    private static final int CALLS = 400;
    /** A small part of the room (7.3 million fields and elements): headers and the test's own are in it. */
    private static final long MOST_BYTES = 1_000_000;
    private static final Check check = new Check();

    private interface Step {
        void call(KnowledgeModel x, int formula);
    }

    public static void main(String[] args) {
        measured("where", (x, f) -> x.where(f));
        measured("tell", (x, f) -> x.tell(15, f));
        measured("areAlike", (x, f) -> x.areAlike(22, 23));
        measured("contract", (x, f) -> x.contract());
        measured("prune", (x, f) -> x.prune());
        measured("digest", (x, f) -> x.digest());
        measured("a refused addWorld", (x, f) -> Check.outcome(() -> x.addWorld(64)));
        check.end("DearestRunTest");
    }

    private static void measured(String name, Step step) {
        // The first time, the machine loads classes; that is not the program's room.
        bytesOf(step, 3);
        long bytes = bytesOf(step, CALLS);
        check.due(CALLS + " calls of " + name + " made less than " + MOST_BYTES + " bytes (" + bytes + ")",
                bytes < MOST_BYTES, true);
    }

    private static long bytesOf(Step step, int calls) {
        var threads = (com.sun.management.ThreadMXBean) ManagementFactory.getThreadMXBean();
        long thread = Thread.currentThread().getId();
        long before = threads.getThreadAllocatedBytes(thread);
        KnowledgeModel x = longChain();
        int dearest = nestedFormula(x);
        for (int k = 0; k < calls; k++) {
            step.call(x, dearest);
        }
        return threads.getThreadAllocatedBytes(thread) - before;
    }

    /** 24 worlds of which none is like another, with the longest way to the one where atom 1 is false. */
    private static KnowledgeModel longChain() {
        KnowledgeModel x = new KnowledgeModel();
        for (int w = 0; w < 24; w++) {
            x.addWorld(w < 23 ? 3 : 1);
        }
        for (int w = 0; w < 23; w++) {
            x.connect(w % 4, w, w + 1, true);
        }
        return x;
    }

    /** Many AFTERs of nesting 2, of nesting 1, and below them COMMONs that must go the whole way. */
    private static int nestedFormula(KnowledgeModel x) {
        int everywhere = x.atom(0);
        int notAtTheEnd = x.atom(1);
        int common = notAtTheEnd;
        for (int k = 0; k < 6; k++) {
            common = x.both(common, x.ofGroup(true, 15, notAtTheEnd));
        }
        int once = common;
        for (int k = 0; k < 6; k++) {
            once = x.both(once, x.after(everywhere, common));
        }
        int twice = once;
        while (x.formulaCount() < 39) {
            twice = x.both(twice, x.after(everywhere, once));
        }
        return twice;
    }
}
