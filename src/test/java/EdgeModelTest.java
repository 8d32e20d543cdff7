/**
 * The boundary cases of the description's "Model" and of the promises 1 to 12: a test for each
 * sentence that names one. The sentence stands over its test.
 */
public final class EdgeModelTest {
    private static final Edge edge = new Edge();

    public static void main(String[] args) {
        newObject();
        calls512();
        atMost24Worlds();
        roomAgain();
        atomsAreSixEach();
        arrowToTheSameWorld();
        firstIsActual();
        addWorldAtoms();
        addWorld24();
        setAtomsWorld();
        setAtomsAtoms();
        connectOutside();
        connectAtTheEnds();
        gatherAgent();
        gatherSet();
        gatherEmptyAndAll();
        setActual();
        actual();
        worldCount();
        atoms();
        seen();
        arrowCount();
        shapeAgent();
        shapeSelf();
        shapeBack();
        shapeOn();
        edge.end("EdgeModelTest");
    }

    /** "Creates a model without worlds and arrows, and without formulas." */
    private static void newObject() {
        KnowledgeModel x = new KnowledgeModel();
        edge.due("1: worldCount() of a new object", x.worldCount(), 0);
        edge.due("1: formulaCount() of a new object", x.formulaCount(), 0);
        for (int i = 0; i < 4; i++) {
            edge.due("1: arrowCount(" + i + ") of a new object", x.arrowCount(i), 0);
        }
        edge.due("1: digest() of a new object", x.digest(), Edge.digestOf(0, -1, 0));
        edge.outside("1: atoms(0) of a new object", 0, 0, y -> y.atoms(0));
        edge.outside("1: depth(0) of a new object", 0, 0, y -> y.depth(0));
    }

    /** "An object is used for at most 512 calls after it has been made" */
    private static void calls512() {
        KnowledgeModel x = Edge.same(24, 0);
        for (int call = 25; call < 512; call++) {
            edge.due("call " + call + " of 512", x.connect(3, 23, 0, call % 2 == 0), call > 25 && call % 2 != 0);
        }
        edge.due("the 512th call", x.seen(3, 23), 0);
    }

    /** "There are at most 24 worlds, numbered from 0" */
    private static void atMost24Worlds() {
        KnowledgeModel x = new KnowledgeModel();
        for (int w = 0; w < 24; w++) {
            edge.due("2: the number of world " + w, x.addWorld(0), w);
            edge.due("2: the actual world stays the first", x.actual(), 0);
        }
        edge.untimely("2: a 25th world", 24, 0, y -> y.addWorld(0));
    }

    /** The same, when worlds were removed from 24: there is room again, and the new ones have no arrows. */
    private static void roomAgain() {
        KnowledgeModel x = Edge.same(24, 1);
        x.setAtoms(23, 0);
        for (int i = 0; i < 4; i++) {
            x.gather(i, Edge.ALL_24);
        }
        edge.due("28: announce() removes the 24th", x.announce(x.atom(0)), 1);
        edge.due("2: addWorld() where the 24th was", x.addWorld(63), 23);
        for (int i = 0; i < 4; i++) {
            edge.due("2: the new 24th sees nothing", x.seen(i, 23), 0);
            edge.due("2: the new 24th is not seen", x.seen(i, 0), 0x7fffff);
        }
        edge.due("2: a 25th world", Check.outcome(() -> x.addWorld(0)), "throws java.lang.IllegalStateException");
        edge.due("31: contract() to two", x.contract(), 2);
        edge.due("2: addWorld() after contract()", x.addWorld(0), 2);
        edge.due("2: it sees nothing, after contract()", x.seen(0, 2), 0);
        edge.due("32: prune() to one", x.prune(), 2);
        edge.due("2: addWorld() after prune()", x.addWorld(0), 1);
        edge.due("2: it sees nothing, after prune()", x.seen(0, 1), 0);
    }

    /** "6 atoms, 0 to 5, each true or false in each world"; "the sum of the powers 2^k" */
    private static void atomsAreSixEach() {
        KnowledgeModel x = Edge.same(24, 0);
        for (int p = 0; p < 6; p++) {
            x.atom(p);
        }
        for (int p = 0; p < 6; p++) {
            x.setAtoms(23, 1 << p);
            for (int q = 0; q < 6; q++) {
                edge.due("atom " + q + " where " + p + " is true", x.where(q), p == q ? 1 << 23 : 0);
            }
        }
    }

    /** "each from a world to a world (perhaps the same one)" */
    private static void arrowToTheSameWorld() {
        KnowledgeModel x = Edge.same(24, 0);
        for (int w : new int[] {0, 23}) {
            edge.due("4: an arrow to the same world", x.connect(3, w, w, true), false);
            edge.due("4: it is there", x.connect(3, w, w, true), true);
            edge.due("10: it is seen", x.seen(3, w), 1 << w);
            edge.due("4: it is removed", x.connect(3, w, w, false), true);
            edge.due("10: it is not seen", x.seen(3, w), 0);
        }
    }

    /** "One world is the actual one, the first that was added at first." */
    private static void firstIsActual() {
        KnowledgeModel x = new KnowledgeModel();
        x.addWorld(0);
        edge.due("7: actual() with one world", x.actual(), 0);
        x.addWorld(0);
        edge.due("7: actual() with two", x.actual(), 0);
        x.setActual(1);
        x.addWorld(0);
        edge.due("7: actual() after setActual(1) and addWorld()", x.actual(), 1);
    }

    /** "Throws IllegalArgumentException if atoms is not 0 to 63"; named first, so also with 24 worlds. */
    private static void addWorldAtoms() {
        for (int atoms : Edge.NO_ATOMS) {
            for (int worlds : new int[] {0, 1, 23, 24}) {
                edge.illegal("2: addWorld(" + atoms + ")", worlds, 0, x -> x.addWorld(atoms));
            }
        }
        for (int atoms : new int[] {0, 1, 62, 63}) {
            KnowledgeModel x = Edge.same(23, 7);
            edge.due("2: addWorld(" + atoms + ")", x.addWorld(atoms), 23);
            edge.due("2: its atoms", x.atoms(23), atoms);
        }
    }

    /** "Throws IllegalStateException if there are 24 worlds" */
    private static void addWorld24() {
        for (int atoms : new int[] {0, 63}) {
            edge.untimely("2: addWorld(" + atoms + ")", 24, 0, x -> x.addWorld(atoms));
            edge.untimely("2: addWorld(" + atoms + ")", 24, 40, x -> x.addWorld(atoms));
        }
        KnowledgeModel x = Edge.same(12, 1);
        x.whisper(1, x.atom(0));
        edge.due("2: addWorld(0) when copies made the 24th",
                Check.outcome(() -> x.addWorld(0)), "throws java.lang.IllegalStateException");
    }

    /** "Throws IndexOutOfBoundsException if there is no such world"; named before the atoms. */
    private static void setAtomsWorld() {
        for (int worlds : new int[] {0, 1, 23, 24}) {
            for (int w : Edge.noneOf(worlds)) {
                edge.outside("3: setAtoms(" + w + ", 0)", worlds, 0, x -> x.setAtoms(w, 0));
                edge.outside("3: setAtoms(" + w + ", 64)", worlds, 0, x -> x.setAtoms(w, 64));
                edge.outside("3: setAtoms(" + w + ", -1)", worlds, 0, x -> x.setAtoms(w, -1));
            }
        }
    }

    /** "Throws IllegalArgumentException if atoms is not 0 to 63"; "Returns the atoms before." */
    private static void setAtomsAtoms() {
        for (int atoms : Edge.NO_ATOMS) {
            edge.illegal("3: setAtoms(0, " + atoms + ")", 1, 0, x -> x.setAtoms(0, atoms));
            edge.illegal("3: setAtoms(23, " + atoms + ")", 24, 0, x -> x.setAtoms(23, atoms));
        }
        KnowledgeModel x = Edge.same(24, 63);
        edge.due("3: setAtoms(23, 0)", x.setAtoms(23, 0), 63);
        edge.due("3: setAtoms(23, 0) again", x.setAtoms(23, 0), 0);
        edge.due("3: setAtoms(23, 63)", x.setAtoms(23, 63), 0);
        edge.due("3: setAtoms(0, 62)", x.setAtoms(0, 62), 63);
        edge.due("9: the atoms of the others stay", x.atoms(1) + x.atoms(22), 126);
    }

    /** "Throws IndexOutOfBoundsException if agent is not 0 to 3, or there is no such world" */
    private static void connectOutside() {
        for (boolean isOn : new boolean[] {true, false}) {
            for (int i : Edge.NO_AGENT) {
                edge.outside("4: connect(" + i + ", 0, 0)", 1, 0, x -> x.connect(i, 0, 0, isOn));
                edge.outside("4: connect(" + i + ", 23, 23)", 24, 0, x -> x.connect(i, 23, 23, isOn));
                edge.outside("4: connect(" + i + ", 0, 0)", 0, 0, x -> x.connect(i, 0, 0, isOn));
            }
            for (int worlds : new int[] {0, 1, 23, 24}) {
                for (int w : Edge.noneOf(worlds)) {
                    edge.outside("4: connect(3, " + w + ", 0)", worlds, 0, x -> x.connect(3, w, 0, isOn));
                    edge.outside("4: connect(0, 0, " + w + ")", worlds, 0, x -> x.connect(0, 0, w, isOn));
                    edge.outside("4: connect(0, " + w + ", itself)", worlds, 0, x -> x.connect(0, w, w, isOn));
                }
            }
        }
    }

    /** "Returns whether there was one before.", at the first and the last agent and world. */
    private static void connectAtTheEnds() {
        for (int i : new int[] {0, 3}) {
            for (int w : new int[] {0, 23}) {
                KnowledgeModel x = Edge.same(24, 0);
                int to = 23 - w;
                edge.due("4: removing what is not there", x.connect(i, w, to, false), false);
                edge.due("4: making it", x.connect(i, w, to, true), false);
                edge.due("4: making it again", x.connect(i, w, to, true), true);
                edge.due("4: the other direction is not there", x.connect(i, to, w, false), false);
                edge.due("4: another agent's is not there", x.connect(3 - i, w, to, false), false);
                edge.due("4: it alone is there", x.arrowCount(i), 1);
                edge.due("4: it is seen", x.seen(i, w), 1 << to);
                edge.due("4: removing it", x.connect(i, w, to, false), true);
                edge.due("4: nothing is there", x.arrowCount(i), 0);
            }
        }
    }

    /** "Throws IndexOutOfBoundsException if agent is not 0 to 3"; named before the set. */
    private static void gatherAgent() {
        for (int i : Edge.NO_AGENT) {
            edge.outside("5: gather(" + i + ", 0)", 0, 0, x -> x.gather(i, 0));
            edge.outside("5: gather(" + i + ", 1)", 0, 0, x -> x.gather(i, 1));
            edge.outside("5: gather(" + i + ", 1)", 1, 0, x -> x.gather(i, 1));
            edge.outside("5: gather(" + i + ", all)", 24, 0, x -> x.gather(i, Edge.ALL_24));
            edge.outside("5: gather(" + i + ", -1)", 24, 0, x -> x.gather(i, -1));
        }
    }

    /** "Throws IllegalArgumentException if worlds contains something that is no world" */
    private static void gatherSet() {
        for (int worlds : new int[] {0, 1, 5, 23, 24}) {
            int all = (1 << worlds) - 1;
            for (int k = worlds; k < 32; k++) {
                int beyond = 1 << k;
                edge.illegal("5: gather(0, " + beyond + ")", worlds, 0, x -> x.gather(0, beyond));
                edge.illegal("5: gather(3, " + (all | beyond) + ")", worlds, 0, x -> x.gather(3, all | beyond));
            }
            edge.illegal("5: gather(0, -1)", worlds, 0, x -> x.gather(0, -1));
            edge.illegal("5: gather(0, greatest)", worlds, 0, x -> x.gather(0, Integer.MAX_VALUE));
        }
    }

    /** "Makes arrows from each world of a set to each world of it, itself included."; "how many .. not there before" */
    private static void gatherEmptyAndAll() {
        for (int i : new int[] {0, 3}) {
            edge.due("5: the empty set without worlds", new KnowledgeModel().gather(i, 0), 0);
            for (int worlds : new int[] {1, 23, 24}) {
                KnowledgeModel x = Edge.same(worlds, 0);
                int all = (1 << worlds) - 1;
                edge.due("5: the empty set", x.gather(i, 0), 0);
                edge.due("5: the empty set makes nothing", x.arrowCount(i), 0);
                edge.due("5: a set of one, the last", x.gather(i, 1 << (worlds - 1)), 1);
                edge.due("5: it sees itself", x.seen(i, worlds - 1), 1 << (worlds - 1));
                edge.due("5: every world", x.gather(i, all), worlds * worlds - 1);
                edge.due("5: every world again", x.gather(i, all), 0);
                edge.due("5: the first sees all", x.seen(i, 0), all);
                edge.due("5: the last sees all", x.seen(i, worlds - 1), all);
                edge.due("5: the other agent sees nothing", x.arrowCount(3 - i), 0);
            }
            KnowledgeModel kept = Edge.same(24, 0);
            kept.connect(i, 0, 23, true);
            edge.due("5: a set of one, the first", kept.gather(i, 1), 1);
            edge.due("5: its arrow out of the set stays", kept.seen(i, 0), 1 | 1 << 23);
        }
    }

    /** "Throws IndexOutOfBoundsException if there is no such world"; "Returns the number of the actual world before." */
    private static void setActual() {
        for (int worlds : new int[] {0, 1, 23, 24}) {
            for (int w : Edge.noneOf(worlds)) {
                edge.outside("6: setActual(" + w + ")", worlds, 0, x -> x.setActual(w));
            }
        }
        KnowledgeModel x = Edge.same(24, 0);
        edge.due("6: setActual(23)", x.setActual(23), 0);
        edge.due("6: setActual(23) again", x.setActual(23), 23);
        edge.due("6: setActual(0)", x.setActual(0), 23);
        edge.due("7: actual()", x.actual(), 0);
        edge.due("6: setActual(0) with one world", Edge.same(1, 0).setActual(0), 0);
    }

    /** "Throws IllegalStateException if there are no worlds" */
    private static void actual() {
        edge.untimely("7: actual()", 0, 0, KnowledgeModel::actual);
        edge.untimely("7: actual()", 0, 40, KnowledgeModel::actual);
        edge.due("7: actual() with one world", Edge.same(1, 0).actual(), 0);
        KnowledgeModel x = Edge.same(24, 0);
        x.setActual(23);
        edge.due("7: actual(), the last of 24", x.actual(), 23);
    }

    /** "Returns the number of worlds.", none, and 24 after a 25th was refused. */
    private static void worldCount() {
        edge.due("8: no worlds", new KnowledgeModel().worldCount(), 0);
        edge.due("8: one world", Edge.same(1, 0).worldCount(), 1);
        KnowledgeModel x = Edge.same(24, 0);
        Check.outcome(() -> x.addWorld(0));
        edge.due("8: 24 worlds", x.worldCount(), 24);
    }

    /** "Throws IndexOutOfBoundsException if there is no such world" */
    private static void atoms() {
        for (int worlds : new int[] {0, 1, 23, 24}) {
            for (int w : Edge.noneOf(worlds)) {
                edge.outside("9: atoms(" + w + ")", worlds, 0, x -> x.atoms(w));
            }
        }
        KnowledgeModel x = Edge.same(23, 0);
        x.addWorld(63);
        edge.due("9: all atoms, in the last of 24", x.atoms(23), 63);
        edge.due("9: no atoms, in the first", x.atoms(0), 0);
    }

    /** "Throws IndexOutOfBoundsException if agent is not 0 to 3, or there is no such world" */
    private static void seen() {
        for (int i : Edge.NO_AGENT) {
            edge.outside("10: seen(" + i + ", 0)", 0, 0, x -> x.seen(i, 0));
            edge.outside("10: seen(" + i + ", 0)", 1, 0, x -> x.seen(i, 0));
            edge.outside("10: seen(" + i + ", 23)", 24, 0, x -> x.seen(i, 23));
        }
        for (int worlds : new int[] {0, 1, 23, 24}) {
            for (int w : Edge.noneOf(worlds)) {
                edge.outside("10: seen(0, " + w + ")", worlds, 0, x -> x.seen(0, w));
                edge.outside("10: seen(3, " + w + ")", worlds, 0, x -> x.seen(3, w));
            }
        }
        KnowledgeModel x = Edge.same(24, 0);
        x.gather(3, Edge.ALL_24);
        edge.due("10: every world is seen", x.seen(3, 23), Edge.ALL_24);
        edge.due("10: no world is seen", x.seen(0, 23), 0);
    }

    /** "Throws IndexOutOfBoundsException if agent is not 0 to 3"; none, and all arrows. */
    private static void arrowCount() {
        for (int i : Edge.NO_AGENT) {
            edge.outside("11: arrowCount(" + i + ")", 0, 0, x -> x.arrowCount(i));
            edge.outside("11: arrowCount(" + i + ")", 24, 0, x -> x.arrowCount(i));
        }
        for (int i = 0; i < 4; i++) {
            KnowledgeModel x = Edge.same(24, 0);
            edge.due("11: no arrows", x.arrowCount(i), 0);
            x.connect(i, 23, 23, true);
            edge.due("11: the last world's arrow to itself", x.arrowCount(i), 1);
            x.gather(i, Edge.ALL_24);
            edge.due("11: all arrows", x.arrowCount(i), 576);
            edge.due("11: none of the next agent", x.arrowCount((i + 1) % 4), 0);
        }
    }

    /** "Throws IndexOutOfBoundsException if agent is not 0 to 3" */
    private static void shapeAgent() {
        for (int i : Edge.NO_AGENT) {
            edge.outside("12: shape(" + i + ")", 0, 0, x -> x.shape(i));
            edge.outside("12: shape(" + i + ")", 24, 0, x -> x.shape(i));
        }
        for (int i = 0; i < 4; i++) {
            edge.due("12: shape(" + i + ") without worlds", new KnowledgeModel().shape(i), 7);
            edge.due("12: shape(" + i + ") without arrows", Edge.same(24, 0).shape(i), 6);
            edge.due("12: shape(" + i + ") of one world without arrows", Edge.same(1, 0).shape(i), 6);
        }
    }

    /** "1, if there is an arrow from each world to itself" */
    private static void shapeSelf() {
        for (int lacking : new int[] {0, 11, 23}) {
            KnowledgeModel x = Edge.same(24, 0);
            for (int w = 0; w < 24; w++) {
                x.connect(3, w, w, w != lacking);
            }
            edge.due("12: all but " + lacking + " see themselves", x.shape(3), 6);
            x.connect(3, lacking, lacking, true);
            edge.due("12: all see themselves", x.shape(3), 7);
        }
    }

    /** "2, if with each arrow there is the one in the other direction" */
    private static void shapeBack() {
        for (int[] arrow : new int[][] {{0, 23}, {23, 0}, {22, 23}, {1, 0}}) {
            KnowledgeModel x = Edge.same(24, 0);
            x.gather(0, Edge.ALL_24);
            edge.due("12: all arrows", x.shape(0), 7);
            x.connect(0, arrow[0], arrow[1], false);
            edge.due("12: all arrows but one", x.shape(0), 1);
            x.connect(0, arrow[1], arrow[0], false);
            edge.due("12: all arrows but one and the one back", x.shape(0), 3);
        }
    }

    /** "4, if with an arrow from u to v and one from v to w there is always one from u to w" */
    private static void shapeOn() {
        for (int[] way : new int[][] {{0, 22, 23}, {23, 22, 0}, {1, 23, 0}, {22, 0, 23}}) {
            KnowledgeModel x = Edge.same(24, 0);
            x.connect(1, way[0], way[1], true);
            edge.due("12: one arrow", x.shape(1), 4);
            x.connect(1, way[1], way[2], true);
            edge.due("12: two arrows, one behind the other", x.shape(1), 0);
            x.connect(1, way[0], way[2], true);
            edge.due("12: and the one from the first to the last", x.shape(1), 4);
        }
        KnowledgeModel pair = Edge.same(2, 0);
        pair.connect(2, 0, 1, true);
        pair.connect(2, 1, 0, true);
        edge.due("12: to and fro without arrows to themselves", pair.shape(2), 2);
        pair.connect(2, 0, 0, true);
        edge.due("12: the second lacks one to itself", pair.shape(2), 2);
        pair.connect(2, 1, 1, true);
        edge.due("12: to and fro, and to themselves", pair.shape(2), 7);
    }
}
