/** Promises 22 to 27: what is asked of formulas and worlds. */
public final class QuestionTest {
    private static final int[] NO_AGENTS = {-1, 4, Integer.MIN_VALUE, Integer.MAX_VALUE};
    private static final int[] NO_GROUPS = {0, 16, -1, Integer.MIN_VALUE, Integer.MAX_VALUE};
    private static final int[] NO_FORMULAS = {-1, 2, 40, 64, Integer.MIN_VALUE, Integer.MAX_VALUE};
    private static final Check check = new Check();

    public static void main(String[] args) {
        whereKnowsAndCommon();
        whereShared();
        whereAfter();
        whereAfterAfter();
        whereOfManyParts();
        whereOfAllWorlds();
        whereWithoutWorlds();
        holds();
        share();
        decided();
        reached();
        areAlike();
        areAlikeByAgents();
        check.end("QuestionTest");
    }

    /** A chain 0, 1, 2 of agent 0; p (0) is true in 0 and 1, q (1) in 0 and 2. */
    private static KnowledgeModel chain() {
        KnowledgeModel x = Check.model(3, 1, 2);
        Check.arrows(x, 0, 0, 1, 1, 2);
        x.atom(0);
        x.atom(1);
        return x;
    }

    private static void whereKnowsAndCommon() {
        KnowledgeModel x = chain();
        check.due("22: where(p)", x.where(0), 3);
        check.due("22: where(q)", x.where(1), 5);
        check.due("22: where(not p)", x.where(x.not(0)), 4);
        check.due("22: where(p and q)", x.where(x.both(0, 1)), 1);
        check.due("22: where(0 knows p)", x.where(x.knows(0, 0)), 5);
        check.due("22: where(1, who sees nothing, knows p)", x.where(x.knows(1, 0)), 7);
        check.due("22: where(0 knows that 0 knows p)", x.where(x.knows(0, x.knows(0, 0))), 6);
        check.due("22: where(common of 0: p)", x.where(x.ofGroup(true, 1, 0)), 4);
        check.due("22: where(common of 1: p)", x.where(x.ofGroup(true, 2, 0)), 7);
        x.connect(1, 2, 0, true);
        check.due("22: where(common of 0 and 1: p)", x.where(x.ofGroup(true, 3, 0)), 0);
        KnowledgeModel own = Check.model(0, 1);
        own.connect(2, 0, 1, true);
        own.connect(2, 1, 1, true);
        check.due("22: a world that isn't reached does not count", own.where(own.ofGroup(true, 4, own.atom(0))), 3);
        for (int f : NO_FORMULAS) {
            KnowledgeModel y = chain();
            check.outside("22: where(" + f + ")", y, () -> y.where(f));
        }
    }

    private static void whereShared() {
        KnowledgeModel x = Check.model(0, 0, 1, 0);
        Check.arrows(x, 0, 0, 1, 0, 2);
        Check.arrows(x, 1, 0, 2, 0, 3);
        int p = x.atom(0);
        int notP = x.not(p);
        check.due("22: where(shared by 0 and 1: p)", x.where(x.ofGroup(false, 3, p)), 15);
        check.due("22: where(shared by 0 and 1: not p)", x.where(x.ofGroup(false, 3, notP)), 14);
        check.due("22: where(shared by 0: p)", x.where(x.ofGroup(false, 1, p)), 14);
        check.due("22: where(0 knows p)", x.where(x.knows(0, p)), 14);
        check.due("22: where(common of 0 and 1: p)", x.where(x.ofGroup(true, 3, p)), 14);
        check.due("22: where(shared by 0, 1 and 2: not p)", x.where(x.ofGroup(false, 7, notP)), 15);
    }

    private static void whereAfter() {
        KnowledgeModel x = chain();
        check.due("22: where(after p: common p)", x.where(x.after(0, x.ofGroup(true, 1, 0))), 7);
        check.due("22: where(after p: 0 knows q)", x.where(x.after(0, x.knows(0, 1))), 6);
        check.due("22: where(after q: 0 knows p)", x.where(x.after(1, x.knows(0, 0))), 7);
        check.due("22: where(after q: p)", x.where(x.after(1, 0)), 3);
        check.due("22: where(after q: shared p)", x.where(x.after(1, x.ofGroup(false, 1, 0))), 7);
        check.due("22: where(after q: not p)", x.where(x.after(1, x.not(0))), 6);
        check.due("22: the model stays", Check.rows(x, 0), "2 4 0");
        int knows = x.knows(0, 0);
        int after = x.after(0, knows);
        check.due("22: where(after p: 0 knows p)", x.where(after), 7);
        check.due("22: the same part in both models", x.where(x.both(after, knows)), 5);
        KnowledgeModel y = Check.model(1, 0);
        y.gather(0, 3);
        int unknown = y.both(y.atom(0), y.not(y.knows(0, 0)));
        check.due("22: where(p, and 0 does not know it)", y.where(unknown), 1);
        check.due("22: it is false when it has been said", y.where(y.after(unknown, unknown)), 2);
    }

    private static void whereAfterAfter() {
        // Agent 0 goes 0, 1, 2, 3 and back; what is said first decides what is seen second.
        KnowledgeModel x = Check.model(7, 3, 5, 0);
        Check.arrows(x, 0, 0, 1, 1, 2, 2, 3, 3, 0, 0, 2);
        int p = x.atom(0);
        int q = x.atom(1);
        int r = x.atom(2);
        int knowsR = x.knows(0, r);
        check.due("22: where(0 knows r)", x.where(knowsR), 10);
        int afterQ = x.after(q, knowsR);
        // Worlds 0 and 1 stay: from 0 it sees 1 alone, where r is false; from 1 nothing.
        check.due("22: where(after q: 0 knows r)", x.where(afterQ), 14);
        int afterR = x.after(r, knowsR);
        // Worlds 0 and 2 stay: from 0 it sees 2, from 2 nothing.
        check.due("22: where(after r: 0 knows r)", x.where(afterR), 15);
        int twice = x.after(r, x.after(q, knowsR));
        // Worlds 0 and 2, then 0 alone.
        check.due("22: where(after r: after q: ..)", x.where(twice), 15);
        int told = x.after(p, x.after(x.knows(0, r), x.ofGroup(true, 1, q)));
        // Worlds 0, 1, 2: r is known at 1 and 2; those two stay, where 1 sees 2, which has no q.
        check.due("22: where(after p: after 0 knows r: common q)", x.where(told), 13);
        int first = x.after(x.after(q, knowsR), x.knows(0, q));
        // Worlds 1, 2, 3 stay: from 1 it sees 2 and from 2 it sees 3, both without q; from 3 nothing.
        check.due("22: where(after (after q: 0 knows r): 0 knows q)", x.where(first), 9);
    }

    /** A formula whose parts are used twice, over and over, must still be answered at once. */
    private static void whereOfManyParts() {
        KnowledgeModel x = Check.model(1, 0);
        int f = x.atom(0);
        while (x.formulaCount() < 40) {
            f = x.both(f, f);
        }
        check.due("22: where() of 39 BOTHs", x.where(f), 1);
    }

    private static void whereOfAllWorlds() {
        KnowledgeModel x = Check.model(new int[24]);
        x.gather(0, (1 << 24) - 1);
        x.gather(1, (1 << 24) - 1);
        x.setAtoms(23, 32);
        int p = x.atom(5);
        int notP = x.not(p);
        check.due("22: where(p) of 24 worlds", x.where(p), 1 << 23);
        check.due("22: where(not p)", x.where(notP), (1 << 23) - 1);
        check.due("22: where(0 knows not p)", x.where(x.knows(0, notP)), 0);
        check.due("22: where(shared not p)", x.where(x.ofGroup(false, 3, notP)), 0);
        check.due("22: where(common not p)", x.where(x.ofGroup(true, 3, notP)), 0);
        check.due("22: where(after not p: common not p)", x.where(x.after(notP, 4)), (1 << 24) - 1);
        check.due("25: decided(0)", x.decided(0), 31);
        check.due("26: reached(1, 23)", x.reached(1, 23), (1 << 24) - 1);
        check.due("29: tell(1, p)", x.tell(1, p), 46);
        check.due("32: prune()", x.prune(), 0);
    }

    private static void whereWithoutWorlds() {
        KnowledgeModel x = new KnowledgeModel();
        int p = x.atom(0);
        int n = x.not(p);
        check.due("22: where(p) without worlds", x.where(p), 0);
        check.due("22: where(not p) without worlds", x.where(n), 0);
        check.due("22: where(after) without worlds", x.where(x.after(p, x.ofGroup(true, 15, n))), 0);
        check.due("24: share() without worlds", x.share(n), 0.0);
    }

    private static void holds() {
        KnowledgeModel x = chain();
        check.due("23: holds(p)", x.holds(0), true);
        x.setActual(1);
        check.due("23: holds(q) at 1", x.holds(1), false);
        x.setActual(2);
        check.due("23: holds(p) at 2", x.holds(0), false);
        check.due("23: holds(q) at 2", x.holds(1), true);
        KnowledgeModel empty = new KnowledgeModel();
        empty.atom(0);
        empty.not(0);
        check.untimely("23: holds(0) without worlds", empty, () -> empty.holds(0));
        check.untimely("23: holds(1) without worlds", empty, () -> empty.holds(1));
        for (int f : NO_FORMULAS) {
            check.outside("23: holds(" + f + ")", x, () -> x.holds(f));
            check.outside("23: holds(" + f + ") without worlds", empty, () -> empty.holds(f));
        }
    }

    private static void share() {
        KnowledgeModel x = chain();
        check.due("24: share(p)", x.share(0), 2.0 / 3.0);
        check.due("24: share(p and q)", x.share(x.both(0, 1)), 1.0 / 3.0);
        check.due("24: share() of a contradiction", x.share(x.both(0, x.not(0))), 0.0);
        check.due("24: share() of what is true everywhere", x.share(x.knows(3, 0)), 1.0);
        KnowledgeModel y = chain();
        KnowledgeModel empty = new KnowledgeModel();
        for (int f : NO_FORMULAS) {
            check.outside("24: share(" + f + ")", y, () -> y.share(f));
            check.outside("24: share(" + f + ") without worlds", empty, () -> empty.share(f));
        }
    }

    private static void decided() {
        KnowledgeModel x = Check.model(63, 0b000111, 0b010101);
        check.due("25: decided() of one who sees nothing", x.decided(1), 63);
        Check.arrows(x, 1, 0, 1, 0, 2);
        check.due("25: decided(1)", x.decided(1), 0b101101);
        check.due("25: decided(0)", x.decided(0), 63);
        x.connect(1, 0, 0, true);
        check.due("25: decided(1) that sees all", x.decided(1), 0b000101);
        x.setActual(1);
        check.due("25: decided(1) at 1", x.decided(1), 63);
        x.connect(1, 1, 2, true);
        check.due("25: decided(1) that sees one", x.decided(1), 63);
        KnowledgeModel empty = new KnowledgeModel();
        check.untimely("25: decided(0) without worlds", empty, () -> empty.decided(0));
        for (int i : NO_AGENTS) {
            check.outside("25: decided(" + i + ")", x, () -> x.decided(i));
            check.outside("25: decided(" + i + ") without worlds", empty, () -> empty.decided(i));
        }
    }

    private static void reached() {
        KnowledgeModel x = Check.model(0, 0, 0, 0, 0);
        Check.arrows(x, 0, 3, 2, 1, 0);
        Check.arrows(x, 1, 2, 1, 4, 4);
        Check.arrows(x, 3, 0, 3);
        check.due("26: reached(1, 3)", x.reached(1, 3), 4);
        check.due("26: reached(3, 3)", x.reached(3, 3), 7);
        check.due("26: reached(11, 3), in a ring", x.reached(11, 3), 15);
        check.due("26: reached(15, 0)", x.reached(15, 0), 15);
        check.due("26: reached(4, 0)", x.reached(4, 0), 0);
        check.due("26: reached(2, 4)", x.reached(2, 4), 16);
        check.due("26: reached(1, 4)", x.reached(1, 4), 0);
        for (int g : NO_GROUPS) {
            check.illegal("26: reached(" + g + ", 0)", x, () -> x.reached(g, 0));
            check.illegal("26: reached(" + g + ", 5)", x, () -> x.reached(g, 5));
        }
        for (int w : new int[] {-1, 5, 24, 32, Integer.MIN_VALUE, Integer.MAX_VALUE}) {
            check.outside("26: reached(1, " + w + ")", x, () -> x.reached(1, w));
        }
        KnowledgeModel longest = Check.model(new int[24]);
        for (int w = 23; w > 0; w--) {
            longest.connect(w % 4, w, w - 1, true);
        }
        check.due("26: reached() along 23 arrows", longest.reached(15, 23), (1 << 23) - 1);
    }

    private static void areAlike() {
        // 0 has a ring to 1; 2 has an arrow to itself; 3 ends; 4 sees 3.
        KnowledgeModel x = Check.model(1, 1, 1, 1, 1);
        Check.arrows(x, 2, 0, 1, 1, 0, 2, 2, 4, 3);
        check.due("27: a world with itself", x.areAlike(3, 3), true);
        check.due("27: a ring and an arrow to itself", x.areAlike(0, 2), true);
        check.due("27: the other way round", x.areAlike(2, 1), true);
        check.due("27: an end and a ring", x.areAlike(3, 0), false);
        check.due("27: one arrow and a ring", x.areAlike(4, 0), false);
        check.due("27: one arrow and an end", x.areAlike(4, 3), false);
        x.setAtoms(1, 2);
        check.due("27: other atoms behind an arrow", x.areAlike(0, 2), false);
        check.due("27: other atoms", x.areAlike(1, 2), false);
        x.setAtoms(1, 1);
        x.connect(2, 2, 3, true);
        check.due("27: one that sees more", x.areAlike(0, 2), false);
        x.connect(2, 2, 3, false);
        check.due("27: alike again", x.areAlike(0, 2), true);
        for (int w : new int[] {-1, 5, 24, 32, Integer.MIN_VALUE, Integer.MAX_VALUE}) {
            check.outside("27: areAlike(0, " + w + ")", x, () -> x.areAlike(0, w));
            check.outside("27: areAlike(" + w + ", 0)", x, () -> x.areAlike(w, 0));
            check.outside("27: areAlike(" + w + ", itself)", x, () -> x.areAlike(w, w));
        }
        KnowledgeModel empty = new KnowledgeModel();
        check.outside("27: areAlike(0, 0) without worlds", empty, () -> empty.areAlike(0, 0));
    }

    private static void areAlikeByAgents() {
        for (int i = 0; i < 4; i++) {
            KnowledgeModel x = Check.model(0, 0, 0);
            x.connect(i, 0, 2, true);
            check.due("27: an arrow of agent " + i, x.areAlike(0, 1), false);
            x.connect((i + 1) % 4, 1, 2, true);
            check.due("27: arrows of two agents", x.areAlike(0, 1), false);
        }
        for (int seenToo = 2; seenToo < 4; seenToo++) {
            KnowledgeModel x = Check.model(0, 0, 1, 2);
            x.gather(0, 15);
            x.connect(0, 0, seenToo, false);
            check.due("27: one sees a class more", x.areAlike(0, 1), false);
        }
        KnowledgeModel full = Check.model(new int[24]);
        full.gather(1, (1 << 24) - 1);
        check.due("27: the first and the last of 24", full.areAlike(0, 23), true);
        KnowledgeModel chains = Check.model(new int[24]);
        for (int w = 0; w < 23; w++) {
            if (w != 11) {
                chains.connect(0, w, w + 1, true);
            }
        }
        check.due("27: two chains of 12", chains.areAlike(0, 12), true);
        check.due("27: two places in them", chains.areAlike(0, 13), false);
        chains.setAtoms(23, 1);
        check.due("27: two chains with other ends", chains.areAlike(0, 12), false);
    }
}
