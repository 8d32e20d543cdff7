/** Promises 1 to 12: a new object, and building and reading the model. */
public final class ModelTest {
    private static final int[] NO_AGENTS = {-1, 4, 32, Integer.MIN_VALUE, Integer.MAX_VALUE};
    private static final int[] NO_ATOMS = {-1, 64, Integer.MIN_VALUE, Integer.MAX_VALUE};
    private static final Check check = new Check();

    public static void main(String[] args) {
        newObject();
        addWorld();
        addWorldAfterRemoval();
        setAtoms();
        connect();
        gather();
        actualWorld();
        atomsAndSeen();
        arrowCount();
        shape();
        check.end("ModelTest");
    }

    /** Numbers that are no worlds where there are so many of them. */
    private static int[] noWorlds(int count) {
        return new int[] {-1, count, 24, 32, Integer.MIN_VALUE, Integer.MAX_VALUE};
    }

    private static void newObject() {
        KnowledgeModel x = new KnowledgeModel();
        check.due("1: worldCount()", x.worldCount(), 0);
        check.due("1: formulaCount()", x.formulaCount(), 0);
        for (int i = 0; i < 4; i++) {
            check.due("1: arrowCount()", x.arrowCount(i), 0);
        }
        check.due("1: digest()", x.digest(), ((127L * 31 + 0) * 31 - 1) * 31 + 0);
        KnowledgeModel other = Check.model(1);
        other.atom(0);
        check.due("1: worldCount() beside another object", x.worldCount(), 0);
        check.due("1: formulaCount() beside another object", x.formulaCount(), 0);
    }

    private static void addWorld() {
        KnowledgeModel x = new KnowledgeModel();
        for (int atoms : NO_ATOMS) {
            check.illegal("2: addWorld(" + atoms + ")", x, () -> x.addWorld(atoms));
        }
        for (int w = 0; w < 24; w++) {
            check.due("2: addWorld()", x.addWorld(w == 1 ? 63 : w), w);
            check.due("2: worldCount()", x.worldCount(), w + 1);
            check.due("2: the first world is the actual one", x.actual(), 0);
        }
        check.due("2: atoms", Check.atomRow(x), "0 63 2 3 4 5 6 7 8 9 10 11 12 13 14 15 16 17 18 19 20 21 22 23");
        check.untimely("2: addWorld(0) with 24 worlds", x, () -> x.addWorld(0));
        check.illegal("2: addWorld(64) with 24 worlds", x, () -> x.addWorld(64));
        check.illegal("2: addWorld(-1) with 24 worlds", x, () -> x.addWorld(-1));
    }

    private static void addWorldAfterRemoval() {
        KnowledgeModel x = Check.model(1, 0, 1, 0);
        for (int i = 0; i < 4; i++) {
            x.gather(i, 15);
        }
        x.announce(x.atom(0));
        check.due("2: addWorld() after announce()", x.addWorld(9), 2);
        x.contract();
        check.due("2: addWorld() after contract()", x.addWorld(8), 2);
        for (int i = 0; i < 4; i++) {
            check.due("2: a new world has no arrows", Check.rows(x, i), "1 0 0");
        }
        x.prune();
        check.due("2: addWorld() after prune()", x.addWorld(7), 1);
        check.due("2: a new world has no arrows", Check.rows(x, 3), "1 0");
        check.due("2: atoms", Check.atomRow(x), "1 7");
    }

    private static void setAtoms() {
        KnowledgeModel x = Check.model(5, 6);
        check.due("3: setAtoms(1, 63)", x.setAtoms(1, 63), 6);
        check.due("3: setAtoms(1, 0)", x.setAtoms(1, 0), 63);
        check.due("3: atoms", Check.atomRow(x), "5 0");
        for (int w : noWorlds(2)) {
            check.outside("3: setAtoms(" + w + ", 0)", x, () -> x.setAtoms(w, 0));
            check.outside("3: setAtoms(" + w + ", 64)", x, () -> x.setAtoms(w, 64));
        }
        for (int atoms : NO_ATOMS) {
            check.illegal("3: setAtoms(0, " + atoms + ")", x, () -> x.setAtoms(0, atoms));
        }
        KnowledgeModel empty = new KnowledgeModel();
        check.outside("3: setAtoms(0, 0) without worlds", empty, () -> empty.setAtoms(0, 0));
    }

    private static void connect() {
        KnowledgeModel x = Check.model(0, 0, 0);
        check.due("4: connect() a new arrow", x.connect(2, 0, 1, true), false);
        check.due("4: connect() an old arrow", x.connect(2, 0, 1, true), true);
        check.due("4: connect() to itself", x.connect(2, 2, 2, true), false);
        check.due("4: rows", Check.rows(x, 2), "2 0 4");
        check.due("4: other agents' rows", Check.rows(x, 1) + Check.rows(x, 3), "0 0 00 0 0");
        check.due("4: removing the other direction", x.connect(2, 1, 0, false), false);
        check.due("4: removing", x.connect(2, 0, 1, false), true);
        check.due("4: removing again", x.connect(2, 0, 1, false), false);
        check.due("4: rows", Check.rows(x, 2), "0 0 4");
        for (int i : NO_AGENTS) {
            check.outside("4: connect(" + i + ", 0, 0)", x, () -> x.connect(i, 0, 0, true));
        }
        for (int w : noWorlds(3)) {
            check.outside("4: connect(0, " + w + ", 0)", x, () -> x.connect(0, w, 0, true));
            check.outside("4: connect(0, 0, " + w + ")", x, () -> x.connect(0, 0, w, true));
            check.outside("4: connect(2, 2, " + w + ", false)", x, () -> x.connect(2, 2, w, false));
        }
    }

    private static void gather() {
        KnowledgeModel x = Check.model(0, 0, 0, 0);
        check.due("5: gather(1, 13)", x.gather(1, 13), 9);
        check.due("5: rows", Check.rows(x, 1), "13 0 13 13");
        check.due("5: gather(1, 13) again", x.gather(1, 13), 0);
        check.due("5: gather(1, 7)", x.gather(1, 7), 5);
        check.due("5: rows", Check.rows(x, 1), "15 7 15 13");
        check.due("5: gather(1, 0)", x.gather(1, 0), 0);
        check.due("5: gather(0, 2)", x.gather(0, 2), 1);
        check.due("5: other agents' rows", Check.rows(x, 0) + " " + Check.rows(x, 2), "0 2 0 0 0 0 0 0");
        for (int set : new int[] {16, 17, 1 << 24, 1 << 30, -1, Integer.MIN_VALUE, Integer.MAX_VALUE}) {
            check.illegal("5: gather(0, " + set + ")", x, () -> x.gather(0, set));
        }
        for (int i : NO_AGENTS) {
            check.outside("5: gather(" + i + ", 1)", x, () -> x.gather(i, 1));
            check.outside("5: gather(" + i + ", 16)", x, () -> x.gather(i, 16));
        }
        KnowledgeModel empty = new KnowledgeModel();
        check.due("5: gather(0, 0) without worlds", empty.gather(0, 0), 0);
        check.illegal("5: gather(0, 1) without worlds", empty, () -> empty.gather(0, 1));
        KnowledgeModel full = Check.model(new int[24]);
        check.due("5: gather() all of 24", full.gather(3, (1 << 24) - 1), 576);
        check.illegal("5: gather() beyond 24", full, () -> full.gather(3, 1 << 24));
    }

    private static void actualWorld() {
        KnowledgeModel x = new KnowledgeModel();
        check.untimely("7: actual() without worlds", x, x::actual);
        check.outside("6: setActual(0) without worlds", x, () -> x.setActual(0));
        x.addWorld(0);
        x.addWorld(0);
        x.addWorld(0);
        check.due("7: actual() at first", x.actual(), 0);
        check.due("6: setActual(2)", x.setActual(2), 0);
        check.due("7: actual()", x.actual(), 2);
        check.due("6: setActual(1)", x.setActual(1), 2);
        check.due("6: setActual(1) again", x.setActual(1), 1);
        x.addWorld(0);
        check.due("7: actual() after addWorld()", x.actual(), 1);
        for (int w : noWorlds(4)) {
            check.outside("6: setActual(" + w + ")", x, () -> x.setActual(w));
        }
        check.due("8: worldCount()", x.worldCount(), 4);
    }

    private static void atomsAndSeen() {
        KnowledgeModel x = Check.model(3, 60);
        x.connect(3, 1, 0, true);
        x.connect(3, 1, 1, true);
        check.due("9: atoms(0)", x.atoms(0), 3);
        check.due("9: atoms(1)", x.atoms(1), 60);
        check.due("10: seen(3, 1)", x.seen(3, 1), 3);
        check.due("10: seen(3, 0)", x.seen(3, 0), 0);
        check.due("10: seen(0, 1)", x.seen(0, 1), 0);
        for (int w : noWorlds(2)) {
            check.outside("9: atoms(" + w + ")", x, () -> x.atoms(w));
            check.outside("10: seen(0, " + w + ")", x, () -> x.seen(0, w));
        }
        for (int i : NO_AGENTS) {
            check.outside("10: seen(" + i + ", 0)", x, () -> x.seen(i, 0));
        }
    }

    private static void arrowCount() {
        KnowledgeModel x = Check.model(0, 0, 0);
        x.gather(0, 7);
        x.connect(1, 0, 2, true);
        x.connect(3, 1, 1, true);
        check.due("11: arrowCount(0)", x.arrowCount(0), 9);
        check.due("11: arrowCount(1)", x.arrowCount(1), 1);
        check.due("11: arrowCount(2)", x.arrowCount(2), 0);
        check.due("11: arrowCount(3)", x.arrowCount(3), 1);
        for (int i : NO_AGENTS) {
            check.outside("11: arrowCount(" + i + ")", x, () -> x.arrowCount(i));
        }
        KnowledgeModel full = Check.model(new int[24]);
        full.gather(3, (1 << 24) - 1);
        check.due("11: arrowCount(3) of 24 worlds", full.arrowCount(3), 576);
    }

    private static int shapeOf(int worlds, int... pairs) {
        KnowledgeModel x = Check.model(new int[worlds]);
        Check.arrows(x, 2, pairs);
        return x.shape(2);
    }

    private static void shape() {
        check.due("12: no worlds", shapeOf(0), 7);
        check.due("12: no arrows", shapeOf(2), 6);
        check.due("12: an arrow to itself", shapeOf(1, 0, 0), 7);
        check.due("12: a world without arrow to itself", shapeOf(2, 0, 0), 6);
        check.due("12: the first without one", shapeOf(2, 1, 1), 6);
        check.due("12: one direction, to the first", shapeOf(2, 1, 0), 4);
        check.due("12: one direction from the last of 24", shapeOf(24, 23, 0), 4);
        check.due("12: a chain to the last of 24", shapeOf(24, 0, 22, 22, 23), 0);
        check.due("12: one direction", shapeOf(2, 0, 1), 4);
        check.due("12: both directions, not to themselves", shapeOf(2, 0, 1, 1, 0), 2);
        check.due("12: a chain", shapeOf(3, 0, 1, 1, 2), 0);
        check.due("12: a chain and its shortcut", shapeOf(3, 0, 1, 1, 2, 0, 2), 4);
        check.due("12: reflexive, one direction", shapeOf(2, 0, 0, 1, 1, 0, 1), 5);
        check.due("12: reflexive chain", shapeOf(3, 0, 0, 1, 1, 2, 2, 0, 1, 1, 2), 1);
        check.due("12: reflexive symmetric chain", shapeOf(3, 0, 0, 1, 1, 2, 2, 0, 1, 1, 2, 1, 0, 2, 1), 3);
        KnowledgeModel full = Check.model(new int[24]);
        full.gather(0, (1 << 24) - 1);
        check.due("12: all arrows of 24 worlds", full.shape(0), 7);
        KnowledgeModel x = Check.model(0, 0);
        x.gather(1, 3);
        check.due("12: another agent's arrows", x.shape(0), 6);
        check.due("12: all arrows", x.shape(1), 7);
        for (int i : NO_AGENTS) {
            check.outside("12: shape(" + i + ")", x, () -> x.shape(i));
        }
    }
}
