import java.math.BigInteger;

/**
 * The boundary cases of the description's "Changes of the model by formulas" and of the promises
 * 28 to 33: a test for each sentence that names one. The sentence stands over its test.
 */
public final class EdgeChangeTest {
    private static final String UNTIMELY = "throws java.lang.IllegalStateException";
    private static final Edge edge = new Edge();

    public static void main(String[] args) {
        announceOutside();
        announceUntimely();
        announceNoneAndAllButOne();
        announceRemovesArrows();
        tellOutside();
        tellGroup();
        tellWithoutWorlds();
        tellWhatIsSoEverywhere();
        tellInEitherDirection();
        whisperOutside();
        whisperGroup();
        whisperUntimely();
        whisperMoreThan24();
        whisperKeepsTheOld();
        whisperArrowsOfTheGroup();
        whisperArrowsOfTheOthers();
        whisperActual();
        contractNoneAndOne();
        contractAllAndNothing();
        contractOrder();
        pruneNoneAndOne();
        pruneAllAndNothing();
        pruneByAnyAgents();
        digestWithoutWorlds();
        digestOfWorlds();
        digestOfFormulas();
        digestWraps();
        digestChangesNothing();
        edge.end("EdgeChangeTest");
    }

    /** "Throws IndexOutOfBoundsException if there is no such formula"; named before the worlds. */
    private static void announceOutside() {
        for (int formulas : new int[] {0, 2, 39, 40}) {
            for (int f : Edge.noneOf(formulas)) {
                edge.outside("28: announce(" + f + ")", 0, formulas, x -> x.announce(f));
                edge.outside("28: announce(" + f + ")", 24, formulas, x -> x.announce(f));
            }
        }
    }

    /** "Throws IllegalStateException if there are no worlds, or it is false at the actual one" */
    private static void announceUntimely() {
        for (int f = 0; f < 40; f++) {
            int formula = f;
            edge.untimely("28: announce(" + f + ")", 0, 40, x -> x.announce(formula));
        }
        for (int worlds : new int[] {1, 2, 24}) {
            edge.untimely("28: announce() what is false at the actual one", worlds, 2, x -> x.announce(1));
        }
        KnowledgeModel x = Edge.same(24, 1);
        x.setAtoms(23, 0);
        x.setActual(23);
        long before = x.digest();
        x.atom(0);
        edge.due("28: true everywhere but at the actual one", Check.outcome(() -> x.announce(0)), UNTIMELY);
        edge.due("28: nothing is removed", x.worldCount() + x.actual(), 24 + 23);
        edge.due("28: the digest was another one before atom(0)", before == x.digest(), false);
    }

    /** "removes all worlds at which it is false"; "Returns how many worlds are removed." */
    private static void announceNoneAndAllButOne() {
        for (int worlds : new int[] {1, 24}) {
            KnowledgeModel x = Edge.same(worlds, 1);
            x.setActual(worlds - 1);
            x.atom(0);
            long before = x.digest();
            edge.due("28: true everywhere", x.announce(0), 0);
            edge.due("28: nothing has changed", x.digest(), before);
        }
        for (int only : new int[] {0, 11, 23}) {
            KnowledgeModel x = Edge.same(24, 0);
            x.setAtoms(only, 33);
            x.gather(3, Edge.ALL_24);
            x.setActual(only);
            edge.due("28: true at the actual one alone", x.announce(x.atom(0)), 23);
            edge.due("28: one world stays", x.worldCount(), 1);
            edge.due("28: it is the actual one", x.actual(), 0);
            edge.due("28: its atoms", x.atoms(0), 33);
            edge.due("28: its arrow to itself", x.seen(3, 0), 1);
            edge.due("28: no other arrows", x.arrowCount(3), 1);
            edge.due("28: the same again", x.announce(0), 0);
        }
    }

    /** "with all arrows from and to them"; "worlds that stay keep their order, and are numbered from 0 again" */
    private static void announceRemovesArrows() {
        KnowledgeModel x = Edge.same(24, 0);
        for (int w = 0; w < 24; w++) {
            x.setAtoms(w, w % 2 == 1 ? w : 0);
            x.connect(2, w, (w + 2) % 24, true);
            x.connect(1, w, (w + 1) % 24, true);
        }
        x.setActual(23);
        edge.due("28: every second world is removed, the first too", x.announce(x.atom(0)), 12);
        edge.due("28: actual()", x.actual(), 11);
        for (int w = 0; w < 12; w++) {
            edge.due("28: the atoms of " + w, x.atoms(w), 1 + 2 * w);
            edge.due("28: arrows between those that stay", x.seen(2, w), 1 << (w + 1) % 12);
            edge.due("28: arrows to those that are removed", x.seen(1, w), 0);
        }
        edge.due("28: arrows that stay", x.arrowCount(2), 12);
        edge.due("28: arrows that are gone", x.arrowCount(1), 0);
        edge.due("28: a world that is gone", Check.outcome(() -> x.atoms(12)),
                "throws java.lang.IndexOutOfBoundsException");
    }

    /** "Throws IndexOutOfBoundsException if there is no such formula"; named before the group. */
    private static void tellOutside() {
        for (int formulas : new int[] {0, 2, 39, 40}) {
            for (int f : Edge.noneOf(formulas)) {
                for (int g : new int[] {-1, 0, 1, 15, 16}) {
                    edge.outside("29: tell(" + g + ", " + f + ")", 0, formulas, x -> x.tell(g, f));
                    edge.outside("29: tell(" + g + ", " + f + ")", 24, formulas, x -> x.tell(g, f));
                }
            }
        }
    }

    /** "Throws IllegalArgumentException if group is not 1 to 15" */
    private static void tellGroup() {
        for (int g : Edge.NO_GROUP) {
            edge.illegal("29: tell(" + g + ", 0)", 0, 1, x -> x.tell(g, 0));
            edge.illegal("29: tell(" + g + ", 0)", 24, 2, x -> x.tell(g, 0));
            edge.illegal("29: tell(" + g + ", 1)", 24, 2, x -> x.tell(g, 1));
        }
        for (int g = 1; g <= 15; g++) {
            KnowledgeModel x = Check.model(1, 0);
            for (int i = 0; i < 4; i++) {
                x.gather(i, 3);
            }
            edge.due("29: tell(" + g + ", p)", x.tell(g, x.atom(0)), 2 * Integer.bitCount(g));
            for (int i = 0; i < 4; i++) {
                edge.due("29: the arrows of " + i + " then", x.arrowCount(i), (g >> i) % 2 == 1 ? 2 : 4);
            }
        }
    }

    /** No IllegalStateException is named: without worlds, and where it is false at the actual one, it is told. */
    private static void tellWithoutWorlds() {
        KnowledgeModel empty = Edge.model(0, 40);
        long before = empty.digest();
        for (int f = 0; f < 40; f++) {
            edge.due("29: tell(15, " + f + ") without worlds", empty.tell(15, f), 0);
        }
        edge.due("29: nothing has changed", empty.digest(), before);
        KnowledgeModel x = Check.model(0, 1);
        x.gather(0, 3);
        edge.due("29: what is false at the actual one", x.tell(1, x.atom(0)), 2);
    }

    /** "removes those arrows .. that connect a world at which it is true with one at which it is false": none. */
    private static void tellWhatIsSoEverywhere() {
        KnowledgeModel x = Edge.same(24, 1);
        for (int i = 0; i < 4; i++) {
            x.gather(i, Edge.ALL_24);
        }
        x.atom(0);
        x.not(0);
        long before = x.digest();
        edge.due("29: true everywhere", x.tell(15, 0), 0);
        edge.due("29: false everywhere", x.tell(15, 1), 0);
        edge.due("29: nothing has changed", x.digest(), before);
        x.setAtoms(23, 0);
        edge.due("29: false at the last one", x.tell(15, 0), 4 * 46);
        edge.due("29: the last one sees itself", x.seen(3, 23), 1 << 23);
        edge.due("29: the first sees the others", x.seen(3, 0), 0x7fffff);
        edge.due("29: the same again", x.tell(15, 0), 0);
        edge.due("29: its opposite", x.tell(15, 1), 0);
    }

    /** "(in either direction)" */
    private static void tellInEitherDirection() {
        for (int so : new int[] {0, 23}) {
            for (int from : new int[] {0, 23}) {
                KnowledgeModel x = Edge.same(24, 0);
                x.setAtoms(so, 1);
                x.connect(3, from, 23 - from, true);
                x.connect(2, from, 23 - from, true);
                edge.due("29: true at " + so + ", an arrow from " + from, x.tell(8, x.atom(0)), 1);
                edge.due("29: it is gone", x.seen(3, from), 0);
                edge.due("29: one of an agent outside stays", x.seen(2, from), 1 << (23 - from));
            }
        }
    }

    /** "Throws IndexOutOfBoundsException if there is no such formula"; named before the group and the worlds. */
    private static void whisperOutside() {
        for (int formulas : new int[] {0, 2, 39, 40}) {
            for (int f : Edge.noneOf(formulas)) {
                for (int g : new int[] {-1, 0, 1, 15, 16}) {
                    edge.outside("30: whisper(" + g + ", " + f + ")", 0, formulas, x -> x.whisper(g, f));
                    edge.outside("30: whisper(" + g + ", " + f + ")", 24, formulas, x -> x.whisper(g, f));
                }
            }
        }
    }

    /** "Throws IllegalArgumentException if group is not 1 to 15"; named before the worlds. */
    private static void whisperGroup() {
        for (int g : Edge.NO_GROUP) {
            edge.illegal("30: whisper(" + g + ", 0), no worlds", 0, 2, x -> x.whisper(g, 0));
            edge.illegal("30: whisper(" + g + ", 0), room for a copy", 1, 2, x -> x.whisper(g, 0));
            edge.illegal("30: whisper(" + g + ", 1), false there", 1, 2, x -> x.whisper(g, 1));
            edge.illegal("30: whisper(" + g + ", 0), no room", 24, 2, x -> x.whisper(g, 0));
            edge.illegal("30: whisper(" + g + ", 1), false there, no room", 24, 2, x -> x.whisper(g, 1));
        }
        for (int g = 1; g <= 15; g++) {
            KnowledgeModel x = Edge.same(1, 1);
            for (int i = 0; i < 4; i++) {
                x.connect(i, 0, 0, true);
            }
            edge.due("30: whisper(" + g + ", p)", x.whisper(g, x.atom(0)), 2);
            for (int i = 0; i < 4; i++) {
                edge.due("30: what " + i + " sees from the copy", x.seen(i, 1), (g >> i) % 2 == 1 ? 2 : 1);
                edge.due("30: what " + i + " sees from the old one", x.seen(i, 0), 1);
            }
        }
    }

    /** "Throws IllegalStateException if there are no worlds, it is false at the actual one, .." */
    private static void whisperUntimely() {
        for (int f = 0; f < 40; f++) {
            int formula = f;
            edge.untimely("30: whisper(15, " + f + ")", 0, 40, x -> x.whisper(15, formula));
        }
        for (int worlds : new int[] {1, 12, 24}) {
            edge.untimely("30: whisper(1, 1), which is false there", worlds, 2, x -> x.whisper(1, 1));
        }
        KnowledgeModel x = Edge.same(12, 1);
        x.setAtoms(11, 0);
        x.setActual(11);
        edge.due("30: true everywhere but at the actual one", Check.outcome(() -> x.whisper(1, x.atom(0))), UNTIMELY);
        edge.due("30: no copies", x.worldCount() + x.actual(), 23);
    }

    /** "or there would be more than 24 worlds": 24 are made, 25 are not. */
    private static void whisperMoreThan24() {
        for (int worlds = 12; worlds <= 24; worlds++) {
            for (int isSo = 1; isSo <= worlds; isSo++) {
                KnowledgeModel x = Edge.same(worlds, 0);
                for (int w = 0; w < isSo; w++) {
                    x.setAtoms(worlds - 1 - w, 1);
                }
                x.gather(0, (1 << worlds) - 1);
                x.setActual(worlds - 1);
                x.atom(0);
                long before = x.digest();
                String what = "30: " + isSo + " copies of " + worlds + " worlds";
                boolean isRoom = worlds + isSo <= 24;
                edge.due(what, Check.outcome(() -> x.whisper(1, 0)), isRoom ? worlds + isSo : UNTIMELY);
                edge.due(what + ", worldCount()", x.worldCount(), isRoom ? worlds + isSo : worlds);
                edge.due(what + ", a change", x.digest() != before, isRoom);
            }
        }
        edge.due("30: one world becomes two", Check.outcome(() -> Edge.model(1, 1).whisper(15, 0)), 2);
    }

    /** "there is a new world, its copy, with the same atoms. The old worlds keep their atoms and arrows." */
    private static void whisperKeepsTheOld() {
        KnowledgeModel x = Edge.same(12, 0);
        for (int w = 0; w < 12; w++) {
            x.setAtoms(w, 2 * w + 33);
        }
        for (int i = 0; i < 4; i++) {
            x.gather(i, 0xfff);
        }
        edge.due("30: every world is copied", x.whisper(5, x.atom(0)), 24);
        for (int w = 0; w < 12; w++) {
            edge.due("30: the atoms of the old " + w, x.atoms(w), 2 * w + 33);
            edge.due("30: the atoms of its copy", x.atoms(w + 12), 2 * w + 33);
            for (int i = 0; i < 4; i++) {
                edge.due("30: the old " + w + " as " + i + " sees it", x.seen(i, w), 0xfff);
                edge.due("30: its copy", x.seen(i, w + 12), i % 2 == 0 ? 0xfff000 : 0xfff);
            }
        }
    }

    /** "if the agent is in the group, and v has a copy, too, there is an arrow from the copy of w to the copy of v" */
    private static void whisperArrowsOfTheGroup() {
        // p is true at 1 and 3, whose copies are 4 and 5.
        KnowledgeModel x = Check.model(0, 1, 0, 1);
        Check.arrows(x, 3, 1, 0, 1, 1, 1, 3, 3, 1, 3, 2, 0, 1, 2, 3);
        x.setActual(1);
        edge.due("30: whisper(8, p)", x.whisper(8, x.atom(0)), 6);
        edge.due("30: rows of one in the group", Check.rows(x, 3), "2 11 8 6 48 16");
        KnowledgeModel lone = Check.model(1, 0);
        lone.connect(0, 0, 1, true);
        lone.whisper(1, lone.atom(0));
        edge.due("30: what is seen has no copy", Check.rows(lone, 0), "2 0 0");
    }

    /** "if the agent is not in the group, there is one from the copy of w to v" */
    private static void whisperArrowsOfTheOthers() {
        KnowledgeModel x = Check.model(0, 1, 0, 1);
        for (int i = 0; i < 4; i++) {
            Check.arrows(x, i, 1, 0, 1, 1, 1, 3, 3, 1, 3, 2, 0, 1, 2, 3);
        }
        x.setActual(3);
        edge.due("30: whisper(8, p)", x.whisper(8, x.atom(0)), 6);
        for (int i = 0; i < 3; i++) {
            edge.due("30: rows of " + i + ", who is not in the group", Check.rows(x, i), "2 11 8 6 11 6");
        }
    }

    /** "The copy of the actual world becomes the actual one."; "copies behind them in the order of the worlds .." */
    private static void whisperActual() {
        for (int actual = 0; actual < 12; actual++) {
            KnowledgeModel x = Edge.same(12, 1);
            x.setActual(actual);
            x.whisper(15, x.atom(0));
            edge.due("30: the copy of " + actual, x.actual(), 12 + actual);
        }
        KnowledgeModel last = Edge.same(23, 0);
        last.setAtoms(22, 9);
        last.setActual(22);
        edge.due("30: one copy, of the last of 23", last.whisper(1, last.atom(3)), 24);
        edge.due("30: it is the actual one", last.actual(), 23);
        edge.due("30: its atoms", last.atoms(23), 9);
    }

    /** "Contracts the model. Returns the number of worlds then.": without worlds, and with one. */
    private static void contractNoneAndOne() {
        for (int formulas : new int[] {0, 40}) {
            KnowledgeModel empty = Edge.model(0, formulas);
            long before = empty.digest();
            edge.due("31: contract() without worlds", empty.contract(), 0);
            edge.due("31: nothing has changed", empty.digest(), before);
            edge.due("31: the first world after that", empty.addWorld(1), 0);
            edge.due("31: it is the actual one", empty.actual(), 0);
        }
        KnowledgeModel one = Edge.same(1, 63);
        one.connect(3, 0, 0, true);
        long before = one.digest();
        edge.due("31: contract() one world", one.contract(), 1);
        edge.due("31: nothing has changed", one.digest(), before);
    }

    /** "Each class of worlds that are alike becomes one world": all of 24, or none with another. */
    private static void contractAllAndNothing() {
        for (boolean isSeeing : new boolean[] {true, false}) {
            KnowledgeModel x = Edge.same(24, 63);
            for (int i = 0; i < 4; i++) {
                x.gather(i, isSeeing ? Edge.ALL_24 : 0);
            }
            x.setActual(23);
            edge.due("31: 24 worlds that are alike", x.contract(), 1);
            edge.due("31: the actual one", x.actual(), 0);
            edge.due("31: its atoms", x.atoms(0), 63);
            edge.due("31: what it sees", x.seen(0, 0) + x.seen(3, 0), isSeeing ? 2 : 0);
            edge.due("31: again", x.contract(), 1);
        }
        KnowledgeModel chain = Edge.chain(3, 24);
        chain.setActual(23);
        long before = chain.digest();
        edge.due("31: 24 worlds of which none is like another", chain.contract(), 24);
        edge.due("31: nothing has changed", chain.digest(), before);
        KnowledgeModel two = Edge.same(24, 0);
        two.setAtoms(23, 1);
        two.setActual(23);
        edge.due("31: 23 alike, and the last", two.contract(), 2);
        edge.due("31: the last is the actual one still", two.actual(), 1);
    }

    /** "classes are in the order of their smallest worlds"; "The class of the actual world becomes the actual one." */
    private static void contractOrder() {
        // Each world has other atoms, but for 23, which is like 22.
        KnowledgeModel x = new KnowledgeModel();
        for (int w = 0; w < 24; w++) {
            x.addWorld(Math.min(w, 22) * 9 % 64);
        }
        x.connect(1, 23, 0, true);
        x.connect(1, 22, 0, true);
        x.connect(1, 0, 23, true);
        x.setActual(23);
        edge.due("31: two of 24 are alike", x.contract(), 23);
        edge.due("31: their class is the actual one", x.actual(), 22);
        for (int w = 0; w < 23; w++) {
            edge.due("31: the atoms of class " + w, x.atoms(w), w * 9 % 64);
        }
        edge.due("31: what is seen from the class", x.seen(1, 22), 1);
        edge.due("31: the class is seen", x.seen(1, 0), 1 << 22);
        edge.due("31: there are no other arrows", x.arrowCount(1), 2);
        KnowledgeModel mixed = Check.model(4, 2, 4, 1, 2);
        mixed.setActual(4);
        edge.due("31: three classes", mixed.contract(), 3);
        edge.due("31: by their smallest worlds", Check.atomRow(mixed), "4 2 1");
        edge.due("31: the actual one", mixed.actual(), 1);
    }

    /** "Prunes the model. Returns how many worlds are removed.": without worlds, and with one. */
    private static void pruneNoneAndOne() {
        for (int formulas : new int[] {0, 40}) {
            KnowledgeModel empty = Edge.model(0, formulas);
            long before = empty.digest();
            edge.due("32: prune() without worlds", empty.prune(), 0);
            edge.due("32: nothing has changed", empty.digest(), before);
            edge.due("32: the first world after that", empty.addWorld(1), 0);
            edge.due("32: it is the actual one", empty.actual(), 0);
        }
        KnowledgeModel one = Edge.same(1, 63);
        edge.due("32: prune() one world without arrows", one.prune(), 0);
        edge.due("32: it stays", one.worldCount(), 1);
    }

    /** "removes all worlds, but the actual one, that cannot be reached from the actual one": all others, or none. */
    private static void pruneAllAndNothing() {
        for (int actual : new int[] {0, 11, 23}) {
            KnowledgeModel x = Edge.same(24, 0);
            x.setAtoms(actual, 63);
            x.setActual(actual);
            for (int w = 0; w < 24; w++) {
                x.connect(2, w, actual, w != actual);
            }
            edge.due("32: nothing is seen from " + actual, x.prune(), 23);
            edge.due("32: it stays", x.worldCount(), 1);
            edge.due("32: it is the actual one", x.actual(), 0);
            edge.due("32: its atoms", x.atoms(0), 63);
            edge.due("32: the arrows to it are gone", x.arrowCount(2), 0);
        }
        KnowledgeModel chain = Edge.chain(3, 24);
        long before = chain.digest();
        edge.due("32: all are reached, by up to 23 arrows", chain.prune(), 0);
        edge.due("32: nothing has changed", chain.digest(), before);
        chain.setActual(22);
        edge.due("32: the last two stay", chain.prune(), 22);
        edge.due("32: their arrow", Check.rows(chain, 3), "2 0");
        edge.due("32: the actual one", chain.actual(), 0);
        chain.setActual(1);
        edge.due("32: the last stays", chain.prune(), 1);
    }

    /** "by arrows of any agents", a way that changes from agent to agent; "with their arrows" */
    private static void pruneByAnyAgents() {
        KnowledgeModel x = Edge.same(24, 0);
        for (int w = 23; w > 12; w--) {
            x.connect(w % 4, w, w - 1, true);
        }
        for (int w = 0; w < 12; w++) {
            x.connect(0, w, 23, true);
            x.connect(1, w, w, true);
        }
        x.setActual(23);
        edge.due("32: the first 12 are removed", x.prune(), 12);
        edge.due("32: actual()", x.actual(), 11);
        edge.due("32: rows of 0", Check.rows(x, 0), "0 0 0 0 8 0 0 0 128 0 0 0");
        edge.due("32: rows of 1", Check.rows(x, 1), "0 1 0 0 0 16 0 0 0 256 0 0");
        edge.due("32: rows of 2", Check.rows(x, 2), "0 0 2 0 0 0 32 0 0 0 512 0");
        edge.due("32: rows of 3", Check.rows(x, 3), "0 0 0 4 0 0 0 64 0 0 0 1024");
    }

    /** "the number of the actual world (-1 if there are no worlds)" */
    private static void digestWithoutWorlds() {
        edge.due("33: no worlds, no formulas", new KnowledgeModel().digest(), 3783426L);
        edge.due("33: no worlds, no formulas, by the rule", Edge.digestOf(0, -1, 0), 3783426L);
        KnowledgeModel x = new KnowledgeModel();
        x.atom(5);
        edge.due("33: no worlds, an ATOM", x.digest(), Edge.digestOf(0, -1, 1, 0, 0, 0));
        edge.due("33: one world", Edge.same(1, 0).digest(), Edge.digestOf(1, 0, 0, 0, 0, 0, 0, 0));
    }

    /** "for each world its atoms, and, for each agent, the set of the worlds that it sees from there" */
    private static void digestOfWorlds() {
        KnowledgeModel x = Check.model(63, 1);
        Check.arrows(x, 0, 0, 0, 1, 0);
        Check.arrows(x, 1, 0, 1);
        Check.arrows(x, 2, 1, 0, 1, 1);
        Check.arrows(x, 3, 0, 0, 0, 1, 1, 1);
        edge.due("33: two worlds", x.digest(), Edge.digestOf(2, 63, 1, 2, 0, 3, 1, 1, 0, 3, 2, 0, 0));
        x.setActual(1);
        edge.due("33: the other is actual", x.digest(), Edge.digestOf(2, 63, 1, 2, 0, 3, 1, 1, 0, 3, 2, 1, 0));
    }

    /** "the number of formulas, and for each of them its kind, its depth and its nesting", none to 40. */
    private static void digestOfFormulas() {
        KnowledgeModel x = new KnowledgeModel();
        x.atom(5);
        x.not(0);
        x.both(0, 1);
        x.knows(3, 2);
        x.ofGroup(true, 15, 3);
        x.ofGroup(false, 1, 4);
        x.after(5, 4);
        x.after(6, 0);
        int[] kinds = {0, -1, 8, 0, 0, 0, 1, 0, 0, 2, 0, 0, 3, 1, 0, 4, 2, 0, 5, 3, 0, 6, 3, 1, 6, 3, 2};
        edge.due("33: all kinds", x.digest(), Edge.digestOf(kinds));
        KnowledgeModel full = new KnowledgeModel();
        int[] numbers = new int[123];
        numbers[1] = -1;
        numbers[2] = 40;
        full.atom(0);
        for (int f = 1; f < 40; f++) {
            full.ofGroup(false, 9, f - 1);
            numbers[3 + 3 * f] = 5;
            numbers[4 + 3 * f] = f;
        }
        edge.due("33: 40 formulas", full.digest(), Edge.digestOf(numbers));
    }

    /** "d becomes d * 31 + x, which wraps around as a 64-bit integer" */
    private static void digestWraps() {
        KnowledgeModel x = Edge.same(24, 63);
        int[] numbers = new int[123];
        numbers[0] = 24;
        for (int i = 0; i < 4; i++) {
            x.gather(i, Edge.ALL_24);
        }
        for (int w = 0; w < 24; w++) {
            java.util.Arrays.fill(numbers, 1 + 5 * w, 6 + 5 * w, Edge.ALL_24);
            numbers[1 + 5 * w] = 63;
        }
        numbers[121] = 23;
        x.setActual(23);
        edge.due("33: 24 worlds with all atoms and arrows", x.digest(), Edge.digestOf(numbers));
        // One world is not enough for 64 bits, and nor are a few formulas; each one more brings 15 bits.
        boolean isNegativeSeen = false;
        KnowledgeModel y = Edge.same(1, 63);
        for (int formulas = 0; formulas <= 40; formulas++) {
            int[] told = new int[8 + 3 * formulas];
            told[0] = 1;
            told[1] = 63;
            told[7] = formulas;
            BigInteger due = Edge.unwrapped(told);
            edge.due("33: one world, " + formulas + " ATOMs, " + due.bitLength() + " bits", y.digest(), due.longValue());
            isNegativeSeen |= due.longValue() < 0;
            if (formulas < 40) {
                y.atom(formulas % 6);
            }
        }
        edge.due("33: some of them wrapped to below 0", isNegativeSeen, true);
    }

    /** "Computes a checksum.": asking for it, or for anything else, changes nothing. */
    private static void digestChangesNothing() {
        KnowledgeModel x = Edge.model(24, 40);
        long before = x.digest();
        for (int k = 0; k < 40; k++) {
            x.where(k);
            x.holds(k);
            x.share(k);
            x.depth(k);
            x.nesting(k);
            x.areAlike(k % 24, 23);
            x.reached(15, k % 24);
            x.decided(k % 4);
        }
        edge.due("33: digest() after questions", x.digest(), before);
    }
}
