/** Promises 28 to 33: changes of the model by formulas, contracting, pruning, and the checksum. */
public final class ChangeTest {
    private static final int[] NO_GROUPS = {0, 16, -1, Integer.MIN_VALUE, Integer.MAX_VALUE};
    private static final int[] NO_FORMULAS = {-1, 2, 40, 64, Integer.MIN_VALUE, Integer.MAX_VALUE};
    private static final Check check = new Check();

    public static void main(String[] args) {
        announce();
        announceRefused();
        tell();
        tellRefused();
        whisper();
        whisperInOrder();
        whisperRefused();
        whisperToTheLimit();
        contract();
        contractAll();
        prune();
        digest();
        check.end("ChangeTest");
    }

    /** Formula 0 is p, formula 1 is not p. */
    private static KnowledgeModel withFormulas(int... atoms) {
        KnowledgeModel x = Check.model(atoms);
        x.atom(0);
        x.not(0);
        return x;
    }

    private static void announce() {
        KnowledgeModel x = withFormulas(1, 2, 5, 9, 16);
        x.gather(0, 31);
        Check.arrows(x, 1, 0, 1, 1, 2, 3, 2, 2, 0);
        x.setActual(3);
        check.due("28: announce(p)", x.announce(0), 2);
        check.due("28: worldCount()", x.worldCount(), 3);
        check.due("28: actual()", x.actual(), 2);
        check.due("28: atoms", Check.atomRow(x), "1 5 9");
        check.due("28: rows of 0", Check.rows(x, 0), "7 7 7");
        check.due("28: rows of 1", Check.rows(x, 1), "0 1 2");
        check.due("28: announce(p) again", x.announce(0), 0);
        int unknown = x.both(x.atom(2), x.not(x.knows(0, 2)));
        x.setActual(1);
        check.due("28: announce() what is not known", x.announce(unknown), 2);
        check.due("28: it is false then", x.holds(unknown), false);
        check.untimely("28: announce() it again", x, () -> x.announce(unknown));
    }

    private static void announceRefused() {
        KnowledgeModel x = withFormulas(1, 0);
        x.gather(0, 3);
        KnowledgeModel empty = withFormulas();
        check.untimely("28: announce(not p) where it is false", x, () -> x.announce(1));
        check.untimely("28: announce(p) without worlds", empty, () -> empty.announce(0));
        check.untimely("28: announce(not p) without worlds", empty, () -> empty.announce(1));
        for (int f : NO_FORMULAS) {
            check.outside("28: announce(" + f + ")", x, () -> x.announce(f));
            check.outside("28: announce(" + f + ") without worlds", empty, () -> empty.announce(f));
        }
    }

    private static void tell() {
        KnowledgeModel x = withFormulas(1, 0, 1);
        for (int i = 0; i < 4; i++) {
            x.gather(i, 7);
        }
        check.due("29: tell(5, p)", x.tell(5, 0), 8);
        check.due("29: rows of 0", Check.rows(x, 0), "5 2 5");
        check.due("29: rows of 1", Check.rows(x, 1), "7 7 7");
        check.due("29: rows of 2", Check.rows(x, 2), "5 2 5");
        check.due("29: rows of 3", Check.rows(x, 3), "7 7 7");
        check.due("29: tell(5, not p)", x.tell(5, 1), 0);
        check.due("29: tell(15, not p)", x.tell(15, 1), 8);
        check.due("29: worldCount()", x.worldCount(), 3);
        KnowledgeModel y = withFormulas(1, 0);
        y.connect(0, 0, 1, true);
        y.connect(1, 1, 0, true);
        y.setActual(1);
        check.due("29: tell(1, p), from true to false", y.tell(1, 0), 1);
        check.due("29: tell(2, p), from false to true", y.tell(2, 0), 1);
        check.due("29: actual()", y.actual(), 1);
        // The formula is asked before the telling, not while arrows go.
        KnowledgeModel z = withFormulas(1, 0, 1);
        z.gather(0, 7);
        z.connect(0, 2, 1, false);
        check.due("29: tell(1, 0 knows p)", z.tell(1, z.knows(0, 0)), 3);
        check.due("29: rows", Check.rows(z, 0), "3 3 4");
        check.due("29: tell() without worlds", withFormulas().tell(15, 1), 0);
    }

    private static void tellRefused() {
        KnowledgeModel x = withFormulas(1, 0);
        x.gather(0, 3);
        for (int g : NO_GROUPS) {
            check.illegal("29: tell(" + g + ", 0)", x, () -> x.tell(g, 0));
            check.outside("29: tell(" + g + ", 2)", x, () -> x.tell(g, 2));
        }
        for (int f : NO_FORMULAS) {
            check.outside("29: tell(1, " + f + ")", x, () -> x.tell(1, f));
        }
    }

    private static void whisper() {
        KnowledgeModel x = withFormulas(1, 0);
        x.gather(0, 3);
        x.gather(1, 3);
        x.connect(3, 0, 1, true);
        check.due("30: whisper(1, p)", x.whisper(1, 0), 3);
        check.due("30: worldCount()", x.worldCount(), 3);
        check.due("30: actual()", x.actual(), 2);
        check.due("30: atoms", Check.atomRow(x), "1 0 1");
        check.due("30: rows of one in the group", Check.rows(x, 0), "3 3 4");
        check.due("30: rows of one outside", Check.rows(x, 1), "3 3 3");
        check.due("30: rows of one who sees nothing", Check.rows(x, 2), "0 0 0");
        check.due("30: rows of one with one arrow", Check.rows(x, 3), "2 0 2");
    }

    private static void whisperInOrder() {
        KnowledgeModel x = withFormulas(2, 3, 4, 5, 7);
        Check.arrows(x, 2, 1, 0, 1, 3, 3, 4, 4, 1, 4, 4, 0, 1);
        Check.arrows(x, 1, 1, 0, 1, 3, 3, 4, 4, 1, 4, 4, 0, 1);
        x.setActual(3);
        check.due("30: whisper(4, p)", x.whisper(4, 0), 8);
        check.due("30: actual()", x.actual(), 6);
        check.due("30: atoms", Check.atomRow(x), "2 3 4 5 7 3 5 7");
        check.due("30: rows of one in the group", Check.rows(x, 2), "2 9 0 16 18 64 128 160");
        check.due("30: rows of one outside", Check.rows(x, 1), "2 9 0 16 18 9 16 18");
    }

    private static void whisperRefused() {
        KnowledgeModel x = withFormulas(1, 0);
        x.gather(0, 3);
        KnowledgeModel empty = withFormulas();
        check.untimely("30: whisper() what is false", x, () -> x.whisper(1, 1));
        check.untimely("30: whisper(1, p) without worlds", empty, () -> empty.whisper(1, 0));
        check.untimely("30: whisper(1, not p) without worlds", empty, () -> empty.whisper(1, 1));
        for (int g : NO_GROUPS) {
            check.illegal("30: whisper(" + g + ", p)", x, () -> x.whisper(g, 0));
            check.illegal("30: whisper(" + g + ", what is false)", x, () -> x.whisper(g, 1));
            check.illegal("30: whisper(" + g + ", p) without worlds", empty, () -> empty.whisper(g, 0));
            check.outside("30: whisper(" + g + ", 2)", x, () -> x.whisper(g, 2));
        }
        for (int f : NO_FORMULAS) {
            check.outside("30: whisper(1, " + f + ")", x, () -> x.whisper(1, f));
            check.outside("30: whisper(1, " + f + ") without worlds", empty, () -> empty.whisper(1, f));
        }
    }

    private static void whisperToTheLimit() {
        int[] ones = new int[12];
        java.util.Arrays.fill(ones, 1);
        KnowledgeModel x = withFormulas(ones);
        x.gather(2, (1 << 12) - 1);
        x.setActual(11);
        check.due("30: whisper() that makes 24 worlds", x.whisper(4, 0), 24);
        check.due("30: actual()", x.actual(), 23);
        check.due("30: seen(2, 23)", x.seen(2, 23), 0xfff000);
        check.untimely("30: whisper() that would make 48", x, () -> x.whisper(4, 0));
        KnowledgeModel y = withFormulas(ones);
        y.addWorld(1);
        check.untimely("30: whisper() that would make 26", y, () -> y.whisper(4, 0));
        KnowledgeModel z = withFormulas(new int[23]);
        z.setAtoms(0, 1);
        check.due("30: whisper() that makes one more, the 24th", z.whisper(1, 0), 24);
        z.setAtoms(0, 0);
        check.untimely("30: whisper() that would make 25", z, () -> z.whisper(1, 0));
    }

    private static void contract() {
        // 1 and 4 are alike (each sees 2 or 3), as are 2 and 3 (ends); 0 sees the former two.
        KnowledgeModel x = Check.model(1, 1, 2, 2, 1);
        Check.arrows(x, 0, 0, 1, 1, 3, 4, 2, 4, 3);
        Check.arrows(x, 3, 2, 2, 3, 2);
        x.setActual(4);
        check.due("31: contract()", x.contract(), 3);
        check.due("31: worldCount()", x.worldCount(), 3);
        check.due("31: actual()", x.actual(), 1);
        check.due("31: atoms", Check.atomRow(x), "1 1 2");
        check.due("31: rows of 0", Check.rows(x, 0), "2 4 0");
        check.due("31: rows of 3", Check.rows(x, 3), "0 0 4");
        check.due("31: contract() again", x.contract(), 3);
        KnowledgeModel ring = Check.model(1, 2, 1, 2);
        Check.arrows(ring, 1, 0, 1, 1, 2, 2, 3, 3, 0);
        ring.setActual(3);
        check.due("31: contract() a ring of four", ring.contract(), 2);
        check.due("31: rows of the ring", Check.rows(ring, 1), "2 1");
        check.due("31: actual() in the ring", ring.actual(), 1);
    }

    private static void contractAll() {
        check.due("31: contract() without worlds", new KnowledgeModel().contract(), 0);
        KnowledgeModel x = Check.model(new int[24]);
        x.gather(0, (1 << 24) - 1);
        x.setActual(23);
        check.due("31: contract() 24 like worlds", x.contract(), 1);
        check.due("31: actual()", x.actual(), 0);
        check.due("31: rows", Check.rows(x, 0) + " " + Check.rows(x, 1), "1 0");
        KnowledgeModel chain = Check.model(new int[24]);
        for (int w = 0; w < 23; w++) {
            chain.connect(0, w, w + 1, true);
        }
        long before = chain.digest();
        check.due("31: contract() a chain of 24", chain.contract(), 24);
        check.due("31: digest() after it", chain.digest(), before);
    }

    private static void prune() {
        KnowledgeModel x = Check.model(1, 2, 3, 4, 5);
        Check.arrows(x, 0, 3, 1, 0, 3, 2, 2);
        Check.arrows(x, 2, 1, 4, 0, 1, 2, 1);
        x.setActual(3);
        check.due("32: prune()", x.prune(), 2);
        check.due("32: worldCount()", x.worldCount(), 3);
        check.due("32: actual()", x.actual(), 1);
        check.due("32: atoms", Check.atomRow(x), "2 4 5");
        check.due("32: rows of 0", Check.rows(x, 0), "0 1 0");
        check.due("32: rows of 2", Check.rows(x, 2), "4 0 0");
        check.due("32: prune() again", x.prune(), 0);
        x.setActual(2);
        check.due("32: prune() to the actual one", x.prune(), 2);
        check.due("32: atoms", Check.atomRow(x), "5");
        check.due("32: prune() without worlds", new KnowledgeModel().prune(), 0);
    }

    private static void digest() {
        KnowledgeModel x = withFormulas(9, 40);
        x.connect(0, 0, 1, true);
        x.gather(3, 3);
        x.connect(1, 1, 0, true);
        x.setActual(1);
        x.knows(2, x.after(0, 1));
        int[] told = {2, 9, 2, 0, 0, 3, 40, 0, 1, 0, 3, 1, 4, 0, 0, 0, 1, 0, 0, 6, 0, 1, 3, 1, 1};
        long d = 127;
        for (int number : told) {
            d = d * 31 + number;
        }
        check.due("33: digest()", x.digest(), d);
        check.due("33: digest() again", x.digest(), d);
        KnowledgeModel full = Check.model(new int[24]);
        long e = 127 * 31 + 24;
        for (int w = 0; w < 24; w++) {
            for (int i = 0; i < 4; i++) {
                full.connect(i, w, 23 - w, true);
            }
            e = e * 31;
            for (int i = 0; i < 4; i++) {
                e = e * 31 + (1 << (23 - w));
            }
        }
        check.due("33: digest() that wraps around", full.digest(), e * 31 * 31);
    }
}
