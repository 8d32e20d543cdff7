/** Promises 13 to 21: creating formulas, and what is told of them. */
public final class FormulaTest {
    private static final int[] NO_AGENTS = {-1, 4, Integer.MIN_VALUE, Integer.MAX_VALUE};
    private static final int[] NO_GROUPS = {0, 16, -1, Integer.MIN_VALUE, Integer.MAX_VALUE};
    private static final Check check = new Check();

    public static void main(String[] args) {
        atom();
        not();
        both();
        knows();
        ofGroup();
        after();
        depthAndNesting();
        kinds();
        formulasStay();
        check.end("FormulaTest");
    }

    /** Numbers that are no formulas where there are so many of them. */
    private static int[] noFormulas(int count) {
        return new int[] {-1, count, 40, 64, Integer.MIN_VALUE, Integer.MAX_VALUE};
    }

    private static KnowledgeModel withAtom() {
        KnowledgeModel x = Check.model(1, 2);
        x.atom(0);
        return x;
    }

    private static KnowledgeModel fullOfFormulas() {
        KnowledgeModel x = withAtom();
        Check.fillFormulas(x);
        return x;
    }

    private static void atom() {
        KnowledgeModel x = Check.model(33, 30);
        check.due("19: formulaCount() at first", x.formulaCount(), 0);
        for (int p = 0; p < 6; p++) {
            check.due("13: atom(" + p + ")", x.atom(p), p);
            check.due("19: formulaCount()", x.formulaCount(), p + 1);
        }
        for (int p = 0; p < 6; p++) {
            check.due("13: where(atom)", x.where(p), p == 0 || p == 5 ? 1 : 2);
        }
        for (int p : new int[] {-1, 6, 32, Integer.MIN_VALUE, Integer.MAX_VALUE}) {
            check.outside("13: atom(" + p + ")", x, () -> x.atom(p));
        }
        check.due("13: atom(0) again is a new formula", x.atom(0), 6);
        Check.fillFormulas(x);
        check.due("19: formulaCount()", x.formulaCount(), 40);
        check.untimely("13: atom(0) with 40 formulas", x, () -> x.atom(0));
        check.outside("13: atom(6) with 40 formulas", x, () -> x.atom(6));
    }

    private static void not() {
        KnowledgeModel x = withAtom();
        check.due("14: not(0)", x.not(0), 1);
        check.due("14: not(1)", x.not(1), 2);
        check.due("14: where", x.where(1) * 10 + x.where(2), 21);
        for (int f : noFormulas(3)) {
            check.outside("14: not(" + f + ")", x, () -> x.not(f));
        }
        KnowledgeModel full = fullOfFormulas();
        check.untimely("14: not(0) with 40 formulas", full, () -> full.not(0));
        check.outside("14: not(40) with 40 formulas", full, () -> full.not(40));
        KnowledgeModel empty = new KnowledgeModel();
        check.outside("14: not(0) without formulas", empty, () -> empty.not(0));
    }

    private static void both() {
        KnowledgeModel x = Check.model(0, 1, 2, 3);
        x.atom(0);
        x.atom(1);
        check.due("15: both(0, 1)", x.both(0, 1), 2);
        check.due("15: both(1, 1)", x.both(1, 1), 3);
        check.due("15: where(both(0, 1))", x.where(2), 8);
        check.due("15: where(both(1, 1))", x.where(3), 12);
        for (int f : noFormulas(4)) {
            check.outside("15: both(0, " + f + ")", x, () -> x.both(0, f));
            check.outside("15: both(" + f + ", 0)", x, () -> x.both(f, 0));
        }
        KnowledgeModel full = fullOfFormulas();
        check.untimely("15: both(0, 39) with 40 formulas", full, () -> full.both(0, 39));
        check.outside("15: both(0, 40) with 40 formulas", full, () -> full.both(0, 40));
        check.outside("15: both(-1, 0) with 40 formulas", full, () -> full.both(-1, 0));
    }

    private static void knows() {
        KnowledgeModel x = withAtom();
        x.gather(3, 3);
        x.connect(2, 0, 0, true);
        x.connect(2, 1, 1, true);
        check.due("16: knows(2, 0)", x.knows(2, 0), 1);
        check.due("16: knows(3, 0)", x.knows(3, 0), 2);
        check.due("16: where(knows(2, 0))", x.where(1), 1);
        check.due("16: where(knows(3, 0))", x.where(2), 0);
        for (int i : NO_AGENTS) {
            check.outside("16: knows(" + i + ", 0)", x, () -> x.knows(i, 0));
        }
        for (int f : noFormulas(3)) {
            check.outside("16: knows(0, " + f + ")", x, () -> x.knows(0, f));
        }
        KnowledgeModel full = fullOfFormulas();
        check.untimely("16: knows(0, 0) with 40 formulas", full, () -> full.knows(0, 0));
        check.outside("16: knows(4, 0) with 40 formulas", full, () -> full.knows(4, 0));
        check.outside("16: knows(0, 40) with 40 formulas", full, () -> full.knows(0, 40));
    }

    private static void ofGroup() {
        KnowledgeModel x = withAtom();
        KnowledgeModel full = fullOfFormulas();
        for (boolean isCommon : new boolean[] {true, false}) {
            check.due("17: ofGroup(.., 1, 0)", x.ofGroup(isCommon, 1, 0), isCommon ? 1 : 3);
            check.due("17: ofGroup(.., 15, 0)", x.ofGroup(isCommon, 15, 0), isCommon ? 2 : 4);
            for (int g : NO_GROUPS) {
                check.illegal("17: ofGroup(.., " + g + ", 0)", x, () -> x.ofGroup(isCommon, g, 0));
                check.outside("17: ofGroup(.., " + g + ", -1)", x, () -> x.ofGroup(isCommon, g, -1));
                check.illegal("17: the same with 40 formulas", full, () -> full.ofGroup(isCommon, g, 0));
            }
            for (int f : noFormulas(isCommon ? 3 : 5)) {
                check.outside("17: ofGroup(.., 1, " + f + ")", x, () -> x.ofGroup(isCommon, 1, f));
            }
            check.untimely("17: with 40 formulas", full, () -> full.ofGroup(isCommon, 1, 0));
            check.outside("17: no formula, with 40", full, () -> full.ofGroup(isCommon, 1, 40));
            check.outside("17: no formula, no group, with 40", full, () -> full.ofGroup(isCommon, 0, 40));
        }
    }

    private static void after() {
        KnowledgeModel x = withAtom();
        check.due("18: after(0, 0)", x.after(0, 0), 1);
        check.due("18: after(1, 0)", x.after(1, 0), 2);
        check.due("18: after(0, 1)", x.after(0, 1), 3);
        check.due("18: after(1, 1)", x.after(1, 1), 4);
        check.due("18: nestings", "" + x.nesting(1) + x.nesting(2) + x.nesting(3) + x.nesting(4), "1222");
        check.illegal("18: after(2, 0)", x, () -> x.after(2, 0));
        check.illegal("18: after(0, 2)", x, () -> x.after(0, 2));
        check.illegal("18: after(4, 3)", x, () -> x.after(4, 3));
        check.outside("18: after(4, 5)", x, () -> x.after(4, 5));
        check.outside("18: after(-1, 4)", x, () -> x.after(-1, 4));
        for (int f : noFormulas(5)) {
            check.outside("18: after(0, " + f + ")", x, () -> x.after(0, f));
            check.outside("18: after(" + f + ", 0)", x, () -> x.after(f, 0));
        }
        Check.fillFormulas(x);
        check.untimely("18: after(1, 1) with 40 formulas", x, () -> x.after(1, 1));
        check.illegal("18: after(2, 0) with 40 formulas", x, () -> x.after(2, 0));
        check.illegal("18: after(0, 2) with 40 formulas", x, () -> x.after(0, 2));
        check.outside("18: after(2, 40) with 40 formulas", x, () -> x.after(2, 40));
    }

    private static void measures(String what, KnowledgeModel x, int formula, int depth, int nesting) {
        check.due("20: depth of " + what, x.depth(formula), depth);
        check.due("21: nesting of " + what, x.nesting(formula), nesting);
    }

    private static void depthAndNesting() {
        KnowledgeModel x = new KnowledgeModel();
        int p = x.atom(1);
        measures("an ATOM", x, p, 0, 0);
        int k = x.knows(0, p);
        measures("a KNOWS", x, k, 1, 0);
        int c = x.ofGroup(true, 3, k);
        measures("a COMMON", x, c, 2, 0);
        int s = x.ofGroup(false, 3, c);
        measures("a SHARED", x, s, 3, 0);
        measures("a NOT", x, x.not(s), 3, 0);
        measures("a BOTH, the first deeper", x, x.both(c, k), 2, 0);
        measures("a BOTH, the second deeper", x, x.both(p, s), 3, 0);
        int a = x.after(c, k);
        measures("an AFTER, the first deeper", x, a, 2, 1);
        measures("an AFTER, the second deeper", x, x.after(p, s), 3, 1);
        measures("a NOT of an AFTER", x, x.not(a), 2, 1);
        measures("a KNOWS of an AFTER", x, x.knows(2, a), 3, 1);
        measures("a COMMON of an AFTER", x, x.ofGroup(true, 1, a), 3, 1);
        measures("a SHARED of an AFTER", x, x.ofGroup(false, 1, a), 3, 1);
        int second = x.after(p, a);
        measures("an AFTER of an AFTER", x, second, 2, 2);
        measures("an AFTER of an AFTER", x, x.after(a, p), 2, 2);
        measures("a BOTH, the first more nested", x, x.both(second, a), 2, 2);
        measures("a BOTH, the second more nested", x, x.both(p, second), 2, 2);
        int count = x.formulaCount();
        for (int f : noFormulas(count)) {
            check.outside("20: depth(" + f + ")", x, () -> x.depth(f));
            check.outside("21: nesting(" + f + ")", x, () -> x.nesting(f));
        }
        int deepest = p;
        while (x.formulaCount() < 40) {
            deepest = x.knows(1, deepest);
        }
        measures("a long chain", x, deepest, 40 - count, 0);
    }

    /** The kinds are told by the digest alone. */
    private static void kinds() {
        KnowledgeModel x = new KnowledgeModel();
        int p = x.atom(3);
        x.not(p);
        x.both(p, p);
        x.knows(3, p);
        x.ofGroup(true, 9, p);
        x.ofGroup(false, 9, p);
        x.after(p, p);
        int[] told = {0, -1, 7, 0, 0, 0, 1, 0, 0, 2, 0, 0, 3, 1, 0, 4, 1, 0, 5, 1, 0, 6, 0, 1};
        long d = 127;
        for (int number : told) {
            d = d * 31 + number;
        }
        check.due("13 to 18: digest()", x.digest(), d);
    }

    private static void formulasStay() {
        KnowledgeModel x = Check.model(1, 3, 1);
        x.gather(0, 7);
        int p = x.atom(0);
        int k = x.knows(0, x.atom(1));
        check.due("19: where before", x.where(k), 0);
        x.whisper(1, p);
        x.announce(p);
        x.tell(15, p);
        x.setActual(1);
        x.announce(1);
        x.contract();
        x.prune();
        check.due("19: formulaCount() after changes", x.formulaCount(), 3);
        check.due("20: depth after changes", x.depth(k), 1);
        check.due("22: where after changes", x.where(k), 1);
    }
}
