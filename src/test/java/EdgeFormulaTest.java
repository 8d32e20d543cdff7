/**
 * The boundary cases of the description's "Formulas" and of the promises 13 to 21: a test for
 * each sentence that names one. The sentence stands over its test.
 */
public final class EdgeFormulaTest {
    private static final int[] FULL_OR_NOT = {1, 39, 40};
    private static final Edge edge = new Edge();

    public static void main(String[] args) {
        numberedFrom0();
        atMost40();
        atom();
        atomWith40();
        notOutside();
        notWith40();
        bothOutside();
        bothWith40();
        knowsOutside();
        knowsWith40();
        ofGroupFormula();
        ofGroupGroup();
        ofGroupWith40();
        afterOutside();
        nestingAtMost2();
        nestingInsideOthers();
        afterWith40();
        formulaCount();
        depthOutside();
        greatestDepth();
        depthOfTwoParts();
        nestingOutside();
        nestingOfTwoParts();
        formulasStay();
        edge.end("EdgeFormulaTest");
    }

    /** "numbered from 0 in the order of their creation" */
    private static void numberedFrom0() {
        KnowledgeModel x = new KnowledgeModel();
        edge.due("13: the first formula", x.atom(5), 0);
        edge.due("14: the next", x.not(0), 1);
        edge.due("15: the next", x.both(0, 1), 2);
        edge.due("16: the next", x.knows(3, 2), 3);
        edge.due("17: the next, a COMMON", x.ofGroup(true, 15, 3), 4);
        edge.due("17: the next, a SHARED", x.ofGroup(false, 1, 4), 5);
        edge.due("18: the next", x.after(5, 5), 6);
        edge.due("13: the same atom again is another formula", x.atom(5), 7);
    }

    /** "There are at most 40": the 40th of each kind is made, and a 41st of none. */
    private static void atMost40() {
        Edge.Calls[] makers = {x -> x.atom(5), x -> x.not(38), x -> x.both(38, 38), x -> x.knows(3, 38),
            x -> x.ofGroup(true, 15, 38), x -> x.ofGroup(false, 15, 38), x -> x.after(38, 38)};
        for (int kind = 0; kind < 7; kind++) {
            KnowledgeModel x = Edge.model(2, 39);
            Edge.Calls maker = makers[kind];
            edge.due("the 40th formula, kind " + kind, maker.on(x), 39);
            edge.due("19: formulaCount()", x.formulaCount(), 40);
            edge.untimely("the 41st formula, kind " + kind, 2, 40, maker);
        }
    }

    /** "Throws IndexOutOfBoundsException if p is not 0 to 5"; named first, so also with 40 formulas. */
    private static void atom() {
        for (int p : Edge.NO_ATOM) {
            for (int formulas : new int[] {0, 39, 40}) {
                edge.outside("13: atom(" + p + ")", 0, formulas, x -> x.atom(p));
                edge.outside("13: atom(" + p + ")", 24, formulas, x -> x.atom(p));
            }
        }
        for (int p : new int[] {0, 5}) {
            KnowledgeModel x = new KnowledgeModel();
            x.addWorld(1 << p);
            x.addWorld(63 - (1 << p));
            edge.due("13: atom(" + p + ")", x.atom(p), 0);
            edge.due("22: where it is true", x.where(0), 1);
        }
    }

    /** "Throws IllegalStateException if there are 40 formulas" */
    private static void atomWith40() {
        edge.untimely("13: atom(0)", 1, 40, x -> x.atom(0));
        edge.untimely("13: atom(5)", 0, 40, x -> x.atom(5));
        edge.due("13: atom(5) with 39", Edge.model(1, 39).atom(5), 39);
    }

    /** "Throws IndexOutOfBoundsException if there is no such formula"; named first. */
    private static void notOutside() {
        for (int formulas : new int[] {0, 1, 39, 40}) {
            for (int f : Edge.noneOf(formulas)) {
                edge.outside("14: not(" + f + ")", 2, formulas, x -> x.not(f));
            }
        }
    }

    /** "Throws IllegalStateException if there are 40 formulas" */
    private static void notWith40() {
        edge.untimely("14: not(0)", 2, 40, x -> x.not(0));
        edge.untimely("14: not(39)", 2, 40, x -> x.not(39));
        KnowledgeModel x = Edge.model(2, 39);
        edge.due("14: not(38) with 39", x.not(38), 39);
        edge.due("22: it is true where the other is not", x.where(39), 3 - x.where(38));
    }

    /** "Throws IndexOutOfBoundsException if there is no such formula", the first, the second or both. */
    private static void bothOutside() {
        edge.outside("15: both(0, 0) without formulas", 2, 0, x -> x.both(0, 0));
        for (int formulas : FULL_OR_NOT) {
            int last = formulas - 1;
            for (int f : Edge.noneOf(formulas)) {
                edge.outside("15: both(" + f + ", last)", 2, formulas, x -> x.both(f, last));
                edge.outside("15: both(last, " + f + ")", 2, formulas, x -> x.both(last, f));
                edge.outside("15: both(" + f + ", the same)", 2, formulas, x -> x.both(f, f));
            }
        }
    }

    /** "Throws IllegalStateException if there are 40 formulas" */
    private static void bothWith40() {
        edge.untimely("15: both(0, 39)", 2, 40, x -> x.both(0, 39));
        edge.untimely("15: both(39, 39)", 2, 40, x -> x.both(39, 39));
        KnowledgeModel x = Edge.same(1, 1);
        x.atom(0);
        x.atom(1);
        edge.due("15: both of the same formula", x.both(0, 0), 2);
        edge.due("22: it is true where that one is", x.where(2), 1);
        edge.due("22: the first alone is true", x.where(x.both(0, 1)), 0);
        edge.due("22: the second alone is true", x.where(x.both(1, 0)), 0);
    }

    /** "Throws IndexOutOfBoundsException if agent is not 0 to 3, or there is no such formula" */
    private static void knowsOutside() {
        for (int formulas : FULL_OR_NOT) {
            for (int i : Edge.NO_AGENT) {
                edge.outside("16: knows(" + i + ", 0)", 2, formulas, x -> x.knows(i, 0));
                edge.outside("16: knows(" + i + ", 40)", 2, formulas, x -> x.knows(i, 40));
            }
            for (int f : Edge.noneOf(formulas)) {
                edge.outside("16: knows(0, " + f + ")", 2, formulas, x -> x.knows(0, f));
                edge.outside("16: knows(3, " + f + ")", 2, formulas, x -> x.knows(3, f));
            }
        }
        edge.outside("16: knows(0, 0) without formulas", 2, 0, x -> x.knows(0, 0));
    }

    /** "Throws IllegalStateException if there are 40 formulas"; each agent from 0 to 3 is taken. */
    private static void knowsWith40() {
        for (int i = 0; i < 4; i++) {
            int agent = i;
            edge.untimely("16: knows(" + i + ", 39)", 2, 40, x -> x.knows(agent, 39));
            KnowledgeModel x = Edge.same(2, 0);
            x.setAtoms(1, 1);
            x.connect(i, 0, 0, true);
            x.atom(0);
            edge.due("16: knows(" + i + ", 0)", x.knows(i, 0), 1);
            edge.due("22: it is false where that agent sees what is not so", x.where(1), 2);
            edge.due("22: another agent, who sees nothing, knows it", x.where(x.knows((i + 1) % 4, 0)), 3);
        }
    }

    /** "Throws IndexOutOfBoundsException if there is no such formula"; named before the group and the 40. */
    private static void ofGroupFormula() {
        for (boolean isCommon : new boolean[] {true, false}) {
            for (int formulas : new int[] {0, 1, 39, 40}) {
                for (int f : Edge.noneOf(formulas)) {
                    for (int g : new int[] {0, 1, 15, 16}) {
                        edge.outside("17: ofGroup(.., " + g + ", " + f + ")", 2, formulas,
                                x -> x.ofGroup(isCommon, g, f));
                    }
                }
            }
        }
    }

    /** "Throws IllegalArgumentException if group is not 1 to 15"; named before the 40. */
    private static void ofGroupGroup() {
        for (boolean isCommon : new boolean[] {true, false}) {
            for (int g : Edge.NO_GROUP) {
                for (int formulas : FULL_OR_NOT) {
                    int last = formulas - 1;
                    edge.illegal("17: ofGroup(.., " + g + ", last)", 2, formulas, x -> x.ofGroup(isCommon, g, last));
                }
            }
            for (int g = 1; g <= 15; g++) {
                edge.due("17: ofGroup(.., " + g + ", 0)", Edge.model(2, 1).ofGroup(isCommon, g, 0), 1);
            }
        }
    }

    /** "Throws IllegalStateException if there are 40 formulas" */
    private static void ofGroupWith40() {
        for (boolean isCommon : new boolean[] {true, false}) {
            edge.untimely("17: ofGroup(.., 1, 0)", 2, 40, x -> x.ofGroup(isCommon, 1, 0));
            edge.untimely("17: ofGroup(.., 15, 39)", 2, 40, x -> x.ofGroup(isCommon, 15, 39));
            edge.due("17: ofGroup(.., 15, 38) with 39", Edge.model(2, 39).ofGroup(isCommon, 15, 38), 39);
        }
    }

    /** "Throws IndexOutOfBoundsException if there is no such formula"; named before the nesting and the 40. */
    private static void afterOutside() {
        edge.outside("18: after(0, 0) without formulas", 2, 0, x -> x.after(0, 0));
        for (int formulas : new int[] {1, 6, 39, 40}) {
            // Where there are 6 or more, 5 has nesting 2.
            int other = Math.min(5, formulas - 1);
            for (int f : Edge.noneOf(formulas)) {
                edge.outside("18: after(" + f + ", " + other + ")", 2, formulas, x -> x.after(f, other));
                edge.outside("18: after(" + other + ", " + f + ")", 2, formulas, x -> x.after(other, f));
                edge.outside("18: after(" + f + ", the same)", 2, formulas, x -> x.after(f, f));
            }
        }
    }

    /** "Throws IllegalArgumentException if its nesting would be greater than 2"; named before the 40. */
    private static void nestingAtMost2() {
        for (int formulas : new int[] {6, 39, 40}) {
            for (int twice = 3; twice <= 5; twice++) {
                int f = twice;
                edge.illegal("18: after(" + f + ", 0)", 2, formulas, x -> x.after(f, 0));
                edge.illegal("18: after(0, " + f + ")", 2, formulas, x -> x.after(0, f));
                edge.illegal("18: after(" + f + ", 2)", 2, formulas, x -> x.after(f, 2));
                edge.illegal("18: after(" + f + ", the same)", 2, formulas, x -> x.after(f, f));
            }
        }
        KnowledgeModel x = Edge.model(2, 6);
        edge.due("18: a nesting of 1", x.nesting(x.after(0, 1)), 1);
        edge.due("18: a nesting of 2 by the first part", x.nesting(x.after(2, 1)), 2);
        edge.due("18: a nesting of 2 by the second part", x.nesting(x.after(1, 2)), 2);
        edge.due("18: a nesting of 2 by both parts", x.nesting(x.after(2, 2)), 2);
    }

    /** The same, where the nesting of 2 is inside of a NOT, KNOWS, COMMON, SHARED or BOTH. */
    private static void nestingInsideOthers() {
        Edge.Calls[] wraps = {x -> x.not(3), x -> x.knows(0, 3), x -> x.ofGroup(true, 1, 3),
            x -> x.ofGroup(false, 1, 3), x -> x.both(3, 0), x -> x.both(0, 3)};
        for (int k = 0; k < wraps.length; k++) {
            KnowledgeModel x = Edge.model(2, 6);
            edge.due("a formula round one of nesting 2 is made, " + k, wraps[k].on(x), 6);
            edge.due("21: its nesting", x.nesting(6), 2);
            edge.due("18: after(it, 0)", Check.outcome(() -> x.after(6, 0)),
                    "throws java.lang.IllegalArgumentException");
            edge.due("18: after(0, it)", Check.outcome(() -> x.after(0, 6)),
                    "throws java.lang.IllegalArgumentException");
            edge.due("19: nothing was made", x.formulaCount(), 7);
        }
    }

    /** "Throws IllegalStateException if there are 40 formulas" */
    private static void afterWith40() {
        edge.untimely("18: after(0, 1)", 2, 40, x -> x.after(0, 1));
        edge.untimely("18: after(2, 39)", 2, 40, x -> x.after(2, 39));
        edge.due("18: after(2, 38) with 39", Edge.model(2, 39).after(2, 38), 39);
    }

    /** "Returns the number of formulas.", none, and 40 after a 41st was refused. */
    private static void formulaCount() {
        edge.due("19: no formulas", new KnowledgeModel().formulaCount(), 0);
        edge.due("19: one formula", Edge.model(0, 1).formulaCount(), 1);
        KnowledgeModel x = Edge.model(0, 40);
        Check.outcome(() -> x.atom(0));
        edge.due("19: 40 formulas", x.formulaCount(), 40);
    }

    /** "Throws IndexOutOfBoundsException if there is no such formula" */
    private static void depthOutside() {
        for (int formulas : new int[] {0, 1, 39, 40}) {
            for (int f : Edge.noneOf(formulas)) {
                edge.outside("20: depth(" + f + ")", 2, formulas, x -> x.depth(f));
            }
        }
        edge.due("20: depth(39), the last", Edge.model(0, 40).depth(39), 0);
    }

    /** "KNOWS, COMMON and SHARED 1 plus that of a", as deep as 40 formulas go; "ATOM 0; NOT that of a" */
    private static void greatestDepth() {
        for (int kind = 0; kind < 4; kind++) {
            KnowledgeModel x = new KnowledgeModel();
            int f = x.atom(0);
            edge.due("20: the depth of an ATOM", x.depth(0), 0);
            for (int k = 1; k < 40; k++) {
                f = kind == 0 ? x.knows(0, f) : kind == 3 ? x.not(f) : x.ofGroup(kind == 1, 15, f);
                edge.due("20: depth(" + k + "), kind " + kind, x.depth(f), kind == 3 ? 0 : k);
                edge.due("21: nesting(" + k + "), kind " + kind, x.nesting(f), 0);
            }
        }
    }

    /** "BOTH and AFTER the greater one of those of a and b" */
    private static void depthOfTwoParts() {
        KnowledgeModel x = new KnowledgeModel();
        int none = x.atom(0);
        int two = x.knows(0, x.knows(1, none));
        edge.due("20: BOTH, the first is deeper", x.depth(x.both(two, none)), 2);
        edge.due("20: BOTH, the second is deeper", x.depth(x.both(none, two)), 2);
        edge.due("20: BOTH of equally deep ones", x.depth(x.both(two, two)), 2);
        edge.due("20: BOTH of two ATOMs", x.depth(x.both(none, none)), 0);
        edge.due("20: AFTER, the first is deeper", x.depth(x.after(two, none)), 2);
        edge.due("20: AFTER, the second is deeper", x.depth(x.after(none, two)), 2);
        edge.due("20: AFTER of equally deep ones", x.depth(x.after(two, two)), 2);
        edge.due("20: AFTER of two ATOMs", x.depth(x.after(none, none)), 0);
    }

    /** "Throws IndexOutOfBoundsException if there is no such formula" */
    private static void nestingOutside() {
        for (int formulas : new int[] {0, 1, 39, 40}) {
            for (int f : Edge.noneOf(formulas)) {
                edge.outside("21: nesting(" + f + ")", 2, formulas, x -> x.nesting(f));
            }
        }
        edge.due("21: nesting(39), the last", Edge.model(0, 40).nesting(39), 0);
    }

    /** "BOTH the greater one of those of a and b; AFTER 1 plus the greater one of those of a and b" */
    private static void nestingOfTwoParts() {
        KnowledgeModel x = Edge.model(0, 6);
        edge.due("21: nesting of an ATOM", x.nesting(0), 0);
        edge.due("21: AFTER of two of nesting 0", x.nesting(2), 1);
        edge.due("21: AFTER, the first is nested", x.nesting(3), 2);
        edge.due("21: AFTER, the second is nested", x.nesting(4), 2);
        edge.due("21: AFTER, both are nested", x.nesting(5), 2);
        edge.due("21: BOTH of nesting 2 and 0", x.nesting(x.both(5, 0)), 2);
        edge.due("21: BOTH of nesting 0 and 2", x.nesting(x.both(0, 5)), 2);
        edge.due("21: BOTH of nesting 1 and 2", x.nesting(x.both(2, 5)), 2);
        edge.due("21: BOTH of nesting 2 and 2", x.nesting(x.both(5, 5)), 2);
        edge.due("21: BOTH of nesting 1 and 0", x.nesting(x.both(2, 0)), 1);
    }

    /** "Formulas stay when the model changes.": all 40, through every kind of change. */
    private static void formulasStay() {
        KnowledgeModel x = Edge.same(3, 1);
        x.atom(0);
        x.knows(0, 0);
        x.not(1);
        while (x.formulaCount() < 40) {
            x.both(0, 0);
        }
        x.whisper(1, 0);
        x.tell(15, 0);
        x.announce(0);
        x.contract();
        x.prune();
        edge.due("19: formulaCount() after changes", x.formulaCount(), 40);
        x.setAtoms(0, 0);
        x.connect(0, 0, 0, true);
        edge.due("22: where(39) in the changed model", x.where(39), 0);
        edge.due("22: where(1) in the changed model", x.where(1), 0);
        edge.due("22: where(2) in the changed model", x.where(2), 1);
    }
}
