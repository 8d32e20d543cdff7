/**
 * The boundary cases of the seven kinds of formulas, and of the promises 22 to 27: a test for
 * each sentence that names one. The sentence stands over its test.
 */
public final class EdgeQuestionTest {
    private static final Edge edge = new Edge();

    public static void main(String[] args) {
        whereOutside();
        whereEmptyAndAll();
        knowsOfNothing();
        knowsOfTheLastWorld();
        commonByOneOrMoreArrows();
        commonAlongAllWorlds();
        commonOfTheGroupAlone();
        sharedByEvery();
        afterOfTheFalse();
        afterOfTheTrue();
        afterHasOnlyThoseWorlds();
        afterHasOnlyArrowsBetween();
        afterTwice();
        holdsOutside();
        holdsWithoutWorlds();
        holdsAtTheEnds();
        shareOutside();
        shareOfNoneAndAll();
        decidedOutside();
        decidedEmptyAndAll();
        reachedGroup();
        reachedWorld();
        reachedEmptyAndAll();
        areAlikeOutside();
        areAlikeItself();
        areAlikeTheGreatest();
        edge.end("EdgeQuestionTest");
    }

    /** "Throws IndexOutOfBoundsException if there is no such formula" */
    private static void whereOutside() {
        for (int formulas : new int[] {0, 1, 39, 40}) {
            for (int f : Edge.noneOf(formulas)) {
                edge.outside("22: where(" + f + ")", 0, formulas, x -> x.where(f));
                edge.outside("22: where(" + f + ")", 24, formulas, x -> x.where(f));
            }
        }
    }

    /** "Returns the set of the worlds at which it is true.": empty, every world, without worlds. */
    private static void whereEmptyAndAll() {
        KnowledgeModel empty = Edge.model(0, 40);
        for (int f = 0; f < 40; f++) {
            edge.due("22: where(" + f + ") without worlds", empty.where(f), 0);
        }
        for (int worlds : new int[] {1, 23, 24}) {
            KnowledgeModel x = Edge.same(worlds, 31);
            edge.due("22: an atom that is true everywhere", x.where(x.atom(4)), (1 << worlds) - 1);
            edge.due("22: an atom that is true nowhere", x.where(x.atom(5)), 0);
            edge.due("22: NOT of what is true everywhere", x.where(x.not(0)), 0);
            edge.due("22: NOT of what is true nowhere", x.where(x.not(1)), (1 << worlds) - 1);
            edge.due("22: BOTH of everywhere and nowhere", x.where(x.both(0, 1)), 0);
            edge.due("22: BOTH of everywhere and everywhere", x.where(x.both(0, 3)), (1 << worlds) - 1);
        }
    }

    /** "KNOWS i a: if a is true at all worlds that the agent i sees from there.": there may be none. */
    private static void knowsOfNothing() {
        KnowledgeModel x = Edge.same(24, 0);
        x.atom(0);
        for (int i = 0; i < 4; i++) {
            edge.due("22: who sees nothing knows what is false", x.where(x.knows(i, 0)), Edge.ALL_24);
        }
    }

    /** The same, where one world of 24 makes it false. */
    private static void knowsOfTheLastWorld() {
        for (int odd : new int[] {0, 23}) {
            KnowledgeModel x = Edge.same(24, 1);
            x.setAtoms(odd, 0);
            x.gather(3, Edge.ALL_24);
            x.connect(3, 5, odd, false);
            edge.due("22: 3 knows p where it does not see " + odd, x.where(x.knows(3, x.atom(0))), 1 << 5);
            edge.due("22: common p, though 5 sees others", x.where(x.ofGroup(true, 8, 0)), 0);
            edge.due("22: shared p by 3 alone", x.where(x.ofGroup(false, 8, 0)), 1 << 5);
        }
    }

    /** "COMMON g a: .. by one or more arrows": the world itself counts only where arrows come back to it. */
    private static void commonByOneOrMoreArrows() {
        KnowledgeModel x = Edge.same(2, 1);
        x.setAtoms(0, 0);
        int common = x.ofGroup(true, 1, x.atom(0));
        edge.due("22: COMMON without arrows", x.where(common), 3);
        x.connect(0, 0, 1, true);
        edge.due("22: COMMON, one arrow from where it is false", x.where(common), 3);
        x.connect(0, 1, 0, true);
        edge.due("22: COMMON, an arrow back", x.where(common), 0);
        x.connect(0, 0, 1, false);
        edge.due("22: COMMON, an arrow to where it is false alone", x.where(common), 1);
        x.connect(0, 1, 0, false);
        x.connect(0, 0, 0, true);
        edge.due("22: COMMON, an arrow to itself", x.where(common), 2);
    }

    /** The same, by as many arrows as 24 worlds allow, in the order of the numbers and against it. */
    private static void commonAlongAllWorlds() {
        KnowledgeModel on = Edge.chain(3, 24);
        on.setAtoms(23, 1);
        edge.due("22: 23 arrows up to the last", on.where(on.ofGroup(true, 8, on.not(on.atom(0)))), 1 << 23);
        KnowledgeModel back = Edge.same(24, 0);
        for (int w = 23; w > 0; w--) {
            back.connect(w % 4, w, w - 1, true);
        }
        back.setAtoms(0, 1);
        edge.due("22: 23 arrows down to the first", back.where(back.ofGroup(true, 15, back.not(back.atom(0)))), 1);
        back.connect(3, 0, 23, true);
        edge.due("22: a ring of 24", back.where(2), 0);
        KnowledgeModel ring = Edge.same(24, 1);
        for (int w = 0; w < 24; w++) {
            ring.connect(0, w, (w + 1) % 24, true);
        }
        edge.due("22: a ring where it is true everywhere", ring.where(ring.ofGroup(true, 1, ring.atom(0))), Edge.ALL_24);
    }

    /** "by one or more arrows of agents of the group g": each group from 1 to 15, and no other agents. */
    private static void commonOfTheGroupAlone() {
        for (int i = 0; i < 4; i++) {
            KnowledgeModel x = Edge.same(2, 0);
            x.connect(i, 0, 1, true);
            int p = x.atom(0);
            for (int g = 1; g <= 15; g++) {
                boolean isIn = (g >> i) % 2 == 1;
                edge.due("22: COMMON of " + g + ", an arrow of " + i, x.where(x.ofGroup(true, g, p)), isIn ? 2 : 3);
                edge.due("26: reached(" + g + ", 0), an arrow of " + i, x.reached(g, 0), isIn ? 2 : 0);
                edge.due("22: SHARED of " + g + ", an arrow of " + i, x.where(x.ofGroup(false, g, p)),
                        g == 1 << i ? 2 : 3);
            }
        }
    }

    /** "SHARED g a: .. that every agent of the group g sees .. (worlds that only some of them see do not count)" */
    private static void sharedByEvery() {
        KnowledgeModel x = Edge.same(24, 0);
        int p = x.atom(0);
        int all = x.ofGroup(false, 15, p);
        edge.due("22: SHARED, no agent sees anything", x.where(all), Edge.ALL_24);
        for (int i = 0; i < 3; i++) {
            x.connect(i, 0, 23, true);
            edge.due("22: SHARED, some see the world", x.where(all), Edge.ALL_24);
        }
        x.connect(3, 0, 22, true);
        edge.due("22: SHARED, the last one sees another", x.where(all), Edge.ALL_24);
        x.connect(3, 0, 23, true);
        edge.due("22: SHARED, every one sees it", x.where(all), Edge.ALL_24 - 1);
        x.setAtoms(23, 1);
        edge.due("22: SHARED, it is true there", x.where(all), Edge.ALL_24);
    }

    /** "AFTER a b: if a is false there": also where it is false everywhere, so that no world would stay. */
    private static void afterOfTheFalse() {
        for (int worlds : new int[] {1, 24}) {
            int everywhere = (1 << worlds) - 1;
            KnowledgeModel x = Edge.same(worlds, 0);
            x.gather(0, everywhere);
            int p = x.atom(0);
            edge.due("22: AFTER p: p, where p is false everywhere", x.where(x.after(p, p)), everywhere);
            int known = x.knows(0, p);
            edge.due("22: AFTER p: 0 knows p", x.where(x.after(p, known)), everywhere);
            int inside = x.after(p, x.not(p));
            edge.due("22: AFTER p: AFTER p: not p", x.where(x.after(p, inside)), everywhere);
            int never = x.both(p, x.not(p));
            edge.due("22: AFTER never: never", x.where(x.after(never, never)), everywhere);
        }
    }

    /** "or b is true there in another model": the same one, if a is true everywhere. */
    private static void afterOfTheTrue() {
        for (int worlds : new int[] {1, 24}) {
            int everywhere = (1 << worlds) - 1;
            KnowledgeModel x = Edge.same(worlds, 1);
            x.setAtoms(worlds - 1, 3);
            x.gather(3, everywhere);
            int p = x.atom(0);
            int q = x.atom(1);
            edge.due("22: AFTER p: q, where p is true everywhere", x.where(x.after(p, q)), 1 << (worlds - 1));
            int known = x.knows(3, q);
            edge.due("22: AFTER p: 3 knows q", x.where(x.after(p, known)), x.where(known));
            edge.due("22: AFTER p: AFTER p: q", x.where(x.after(p, x.after(p, q))), 1 << (worlds - 1));
        }
    }

    /** "in the one that has only those worlds of this one at which a is true" */
    private static void afterHasOnlyThoseWorlds() {
        KnowledgeModel x = Edge.same(24, 1);
        x.gather(0, Edge.ALL_24);
        x.setAtoms(0, 0);
        x.setAtoms(23, 0);
        int p = x.atom(0);
        int known = x.knows(0, p);
        edge.due("22: 0 knows p", x.where(known), 0);
        edge.due("22: AFTER p: 0 knows p", x.where(x.after(p, known)), Edge.ALL_24);
        edge.due("22: AFTER p: 0 does not know p", x.where(x.after(p, x.not(known))), 1 | 1 << 23);
        edge.due("22: AFTER not p: 0 knows p", x.where(x.after(x.not(p), known)), 0x7ffffe);
        int after = x.after(p, known);
        edge.due("22: AFTER p: 0 knows p, and 0 knows p now", x.where(x.both(after, known)), 0);
        edge.due("22: AFTER changes nothing", x.where(known) + x.worldCount() + x.arrowCount(0), 24 + 576);
    }

    /** "and the arrows between them": no way leads through a world that is gone. */
    private static void afterHasOnlyArrowsBetween() {
        KnowledgeModel x = Check.model(3, 0, 1);
        Check.arrows(x, 2, 0, 1, 1, 2);
        int p = x.atom(0);
        int q = x.atom(1);
        int common = x.ofGroup(true, 4, q);
        edge.due("22: COMMON q", x.where(common), 4);
        edge.due("22: AFTER p: COMMON q, the way there is gone", x.where(x.after(p, common)), 7);
        x.connect(2, 0, 2, true);
        edge.due("22: AFTER p: COMMON q, with an arrow between", x.where(x.after(p, common)), 6);
    }

    /** "The nesting of a formula is at most 2": a nesting of 2 in the first, the second and both parts. */
    private static void afterTwice() {
        // q is true at 0 and 1, r at 0 and 2; agent 1 sees every world from every one.
        KnowledgeModel x = Check.model(6, 2, 4, 0);
        x.gather(1, 15);
        int q = x.atom(1);
        int r = x.atom(2);
        int knowsR = x.knows(1, r);
        int knowsQ = x.knows(1, q);
        edge.due("22: AFTER q: 1 knows r", x.where(x.after(q, knowsR)), 12);
        edge.due("22: AFTER q: AFTER r: 1 knows r and q",
                x.where(x.after(q, x.after(r, x.both(knowsR, knowsQ)))), 15);
        int afterR = x.after(r, knowsQ);
        edge.due("22: AFTER r: 1 knows q", x.where(afterR), 10);
        // Only 1 and 3 stay, where 1 sees 3, at which q is false.
        edge.due("22: AFTER (AFTER r: 1 knows q): 1 knows q", x.where(x.after(afterR, knowsQ)), 5);
        // Among 1 and 3, r is false, so the inner AFTER is true.
        edge.due("22: AFTER (AFTER r: 1 knows q): AFTER r: 1 knows q", x.where(x.after(afterR, afterR)), 15);
    }

    /** "Throws IndexOutOfBoundsException if there is no such formula"; named before the worlds. */
    private static void holdsOutside() {
        for (int formulas : new int[] {0, 1, 39, 40}) {
            for (int f : Edge.noneOf(formulas)) {
                edge.outside("23: holds(" + f + ")", 0, formulas, x -> x.holds(f));
                edge.outside("23: holds(" + f + ")", 1, formulas, x -> x.holds(f));
            }
        }
    }

    /** "Throws IllegalStateException if there are no worlds", whatever the formula says. */
    private static void holdsWithoutWorlds() {
        for (int f = 0; f < 40; f++) {
            int formula = f;
            edge.untimely("23: holds(" + f + ")", 0, 40, x -> x.holds(formula));
        }
    }

    /** "Returns whether it is true at the actual world.", the first or the last, and at no other one. */
    private static void holdsAtTheEnds() {
        for (int w : new int[] {0, 23}) {
            KnowledgeModel x = Edge.same(24, 0);
            x.setAtoms(w, 32);
            x.atom(5);
            x.setActual(w);
            edge.due("23: true at the actual world alone", x.holds(0), true);
            x.setActual(23 - w);
            edge.due("23: true at another world alone", x.holds(0), false);
        }
        KnowledgeModel one = Edge.same(1, 0);
        edge.due("23: false with one world", one.holds(one.atom(0)), false);
        edge.due("23: true with one world", one.holds(one.not(0)), true);
    }

    /** "Throws IndexOutOfBoundsException if there is no such formula", with and without worlds. */
    private static void shareOutside() {
        for (int formulas : new int[] {0, 1, 39, 40}) {
            for (int f : Edge.noneOf(formulas)) {
                edge.outside("24: share(" + f + ")", 0, formulas, x -> x.share(f));
                edge.outside("24: share(" + f + ")", 24, formulas, x -> x.share(f));
            }
        }
    }

    /** "the number of worlds at which it is true divided by the number of worlds; 0 if there are none" */
    private static void shareOfNoneAndAll() {
        KnowledgeModel empty = Edge.model(0, 40);
        for (int f = 0; f < 40; f++) {
            edge.due("24: share(" + f + ") without worlds", empty.share(f), 0.0);
        }
        for (int worlds = 1; worlds <= 24; worlds++) {
            KnowledgeModel x = Edge.same(worlds, 0);
            x.atom(0);
            for (int isSo = 0; isSo <= worlds; isSo++) {
                edge.due("24: " + isSo + " of " + worlds, x.share(0), (double) isSo / worlds);
                if (isSo < worlds) {
                    x.setAtoms(worlds - 1 - isSo, 1);
                }
            }
        }
    }

    /** "if agent is not 0 to 3"; named before "if there are no worlds" */
    private static void decidedOutside() {
        for (int i : Edge.NO_AGENT) {
            edge.outside("25: decided(" + i + ")", 0, 0, x -> x.decided(i));
            edge.outside("25: decided(" + i + ")", 1, 0, x -> x.decided(i));
            edge.outside("25: decided(" + i + ")", 24, 40, x -> x.decided(i));
        }
        for (int i = 0; i < 4; i++) {
            int agent = i;
            edge.untimely("25: decided(" + i + ")", 0, 0, x -> x.decided(agent));
            edge.untimely("25: decided(" + i + ")", 0, 40, x -> x.decided(agent));
        }
    }

    /** "those atoms that are true at all worlds that it sees from the actual one, or false at all of them" */
    private static void decidedEmptyAndAll() {
        for (int i = 0; i < 4; i++) {
            KnowledgeModel x = Edge.same(24, 0);
            x.setAtoms(0, 63);
            x.setActual(23);
            edge.due("25: who sees nothing", x.decided(i), 63);
            x.connect(i, 23, 0, true);
            edge.due("25: one world with all atoms", x.decided(i), 63);
            x.connect(i, 23, 1, true);
            edge.due("25: and one with none", x.decided(i), 0);
            x.connect(i, 23, 0, false);
            edge.due("25: one world with none", x.decided(i), 63);
            x.gather(i, Edge.ALL_24 - 1);
            edge.due("25: 23 worlds with none", x.decided(i), 63);
            for (int p = 0; p < 6; p++) {
                x.setAtoms(23, 1 << p);
                edge.due("25: the last one has atom " + p, x.decided(i), 63 - (1 << p));
            }
            edge.due("25: another agent sees nothing", x.decided((i + 1) % 4), 63);
            x.setActual(0);
            edge.due("25: nothing is seen from the first", x.decided(i), 63);
        }
    }

    /** "Throws IllegalArgumentException if group is not 1 to 15"; here named before the world. */
    private static void reachedGroup() {
        for (int g : Edge.NO_GROUP) {
            edge.illegal("26: reached(" + g + ", 0)", 0, 0, x -> x.reached(g, 0));
            for (int worlds : new int[] {1, 24}) {
                for (int w : new int[] {-1, 0, worlds - 1, worlds, Integer.MAX_VALUE}) {
                    edge.illegal("26: reached(" + g + ", " + w + ")", worlds, 0, x -> x.reached(g, w));
                }
            }
        }
    }

    /** "Throws IndexOutOfBoundsException if there is no such world" */
    private static void reachedWorld() {
        for (int worlds : new int[] {0, 1, 23, 24}) {
            for (int w : Edge.noneOf(worlds)) {
                edge.outside("26: reached(1, " + w + ")", worlds, 0, x -> x.reached(1, w));
                edge.outside("26: reached(15, " + w + ")", worlds, 0, x -> x.reached(15, w));
            }
        }
    }

    /** "the worlds that can be reached from there by one or more arrows": none, itself, all. */
    private static void reachedEmptyAndAll() {
        KnowledgeModel x = Edge.chain(0, 24);
        edge.due("26: from the end of a chain", x.reached(1, 23), 0);
        edge.due("26: one arrow, and not itself", x.reached(1, 22), 1 << 23);
        edge.due("26: 23 arrows, and not itself", x.reached(1, 0), Edge.ALL_24 - 1);
        edge.due("26: by other agents", x.reached(14, 0), 0);
        edge.due("26: by all agents", x.reached(15, 0), Edge.ALL_24 - 1);
        x.connect(3, 23, 0, true);
        edge.due("26: the ring is closed by another", x.reached(7, 0), Edge.ALL_24 - 1);
        edge.due("26: the ring is closed", x.reached(9, 0), Edge.ALL_24);
        edge.due("26: the ring from its end", x.reached(9, 23), Edge.ALL_24);
        KnowledgeModel one = Edge.same(1, 0);
        edge.due("26: one world without arrows", one.reached(15, 0), 0);
        one.connect(3, 0, 0, true);
        edge.due("26: one world with an arrow to itself", one.reached(8, 0), 1);
        KnowledgeModel back = Edge.same(24, 0);
        for (int w = 23; w > 0; w--) {
            back.connect(w % 4, w, w - 1, true);
        }
        edge.due("26: 23 arrows down to the first", back.reached(15, 23), 0x7fffff);
        edge.due("26: 23 is left by agent 3 alone", back.reached(7, 23), 0);
    }

    /** "Throws IndexOutOfBoundsException if there is no such world", the first, the second or both. */
    private static void areAlikeOutside() {
        edge.outside("27: areAlike(0, 0)", 0, 0, x -> x.areAlike(0, 0));
        for (int worlds : new int[] {1, 23, 24}) {
            for (int w : Edge.noneOf(worlds)) {
                edge.outside("27: areAlike(" + w + ", 0)", worlds, 0, x -> x.areAlike(w, 0));
                edge.outside("27: areAlike(last, " + w + ")", worlds, 0, x -> x.areAlike(worlds - 1, w));
                edge.outside("27: areAlike(" + w + ", the same)", worlds, 0, x -> x.areAlike(w, w));
            }
        }
    }

    /** "two worlds are alike if the same atoms are true in them, and ..": each is like itself. */
    private static void areAlikeItself() {
        KnowledgeModel x = Edge.model(24, 0);
        for (int w = 0; w < 24; w++) {
            edge.due("27: areAlike(" + w + ", itself)", x.areAlike(w, w), true);
        }
        KnowledgeModel same = Edge.same(24, 63);
        edge.due("27: no arrows, the same atoms", same.areAlike(0, 23), true);
        for (int p = 0; p < 6; p++) {
            same.setAtoms(23, 63 - (1 << p));
            edge.due("27: all atoms but " + p, same.areAlike(0, 23), false);
            edge.due("27: the other way round", same.areAlike(23, 0), false);
        }
    }

    /** "and the other way round; the greatest relation for which this is true is meant" */
    private static void areAlikeTheGreatest() {
        KnowledgeModel ring = Edge.same(24, 0);
        for (int w = 0; w < 24; w++) {
            ring.connect(3, w, w < 11 ? w + 1 : w == 11 ? 0 : w < 23 ? w + 1 : 12, true);
        }
        edge.due("27: two rings of 12", ring.areAlike(0, 23), true);
        ring.setAtoms(11, 1);
        edge.due("27: one of them has an atom, one arrow away", ring.areAlike(10, 22), false);
        edge.due("27: the same, 11 arrows away", ring.areAlike(0, 12), false);
        edge.due("27: the other ring's worlds are alike still", ring.areAlike(12, 23), true);
        KnowledgeModel chain = Edge.chain(0, 24);
        edge.due("27: 22 and 23 arrows to the end", chain.areAlike(0, 1), false);
        edge.due("27: the last two", chain.areAlike(22, 23), false);
        chain.connect(0, 23, 23, true);
        edge.due("27: a chain without an end", chain.areAlike(0, 23), true);
        KnowledgeModel more = Check.model(0, 0, 1, 2);
        Check.arrows(more, 1, 0, 2, 1, 2, 1, 3);
        edge.due("27: the other sees one more", more.areAlike(0, 1), false);
        edge.due("27: the one sees one more", more.areAlike(1, 0), false);
        more.connect(1, 0, 3, true);
        edge.due("27: both see both", more.areAlike(0, 1), true);
        more.connect(1, 0, 2, false);
        edge.due("27: the other sees one more, with a smaller number", more.areAlike(0, 1), false);
        edge.due("27: the one sees one more, with a smaller number", more.areAlike(1, 0), false);
    }
}
