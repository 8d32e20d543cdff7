/**
 * A checker for what agents know, and what they know of each other's knowledge.
 *
 * <p>A set of atoms, agents or worlds is an int whose bit k stands for the member k.
 */
public final class KnowledgeModel {
    private static final int MOST_WORLDS = 24;
    private static final int AGENTS = 4;
    private static final int ALL_AGENTS = 15;
    private static final int ATOMS = 6;
    private static final int ALL_ATOMS = 63;
    private static final int MOST_FORMULAS = 40;
    private static final int MOST_NESTING = 2;

    private static final int ATOM = 0;
    private static final int NOT = 1;
    private static final int BOTH = 2;
    private static final int KNOWS = 3;
    private static final int COMMON = 4;
    private static final int SHARED = 5;
    private static final int AFTER = 6;

    /** Stands where a formula has no part. */
    private static final int NO_FORMULA = -1;

    private static final int REFLEXIVE = 1;
    private static final int SYMMETRIC = 2;
    private static final int TRANSITIVE = 4;

    private static final long DIGEST_START = 127L;
    private static final long DIGEST_FACTOR = 31L;

    private final Worlds worlds;
    private final Formulas formulas;
    private final Truth truth;
    private final Likeness likeness;

    public KnowledgeModel() {
        worlds = new Worlds();
        formulas = new Formulas();
        truth = new Truth(worlds, formulas);
        likeness = new Likeness(worlds);
    }

    // ---- model

    public int addWorld(int atoms) throws IllegalArgumentException, IllegalStateException {
        needAtoms(atoms);
        if (worlds.count >= MOST_WORLDS) {
            throw new IllegalStateException("there are 24 worlds");
        }
        return worlds.append(atoms);
    }

    public int setAtoms(int world, int atoms) throws IndexOutOfBoundsException, IllegalArgumentException {
        needWorld(world);
        needAtoms(atoms);
        int before = worlds.atomsAt[world];
        worlds.atomsAt[world] = atoms;
        return before;
    }

    public boolean connect(int agent, int from, int to, boolean isOn) throws IndexOutOfBoundsException {
        needAgent(agent);
        needWorld(from);
        needWorld(to);
        int before = worlds.arrows[agent][from];
        worlds.arrows[agent][from] = isOn ? before | single(to) : before & ~single(to);
        return contains(before, to);
    }

    public int gather(int agent, int worlds) throws IndexOutOfBoundsException, IllegalArgumentException {
        needAgent(agent);
        if ((worlds & ~this.worlds.all()) != 0) {
            throw new IllegalArgumentException("the set contains something that is no world");
        }
        return this.worlds.joinAll(agent, worlds);
    }

    public int setActual(int world) throws IndexOutOfBoundsException {
        needWorld(world);
        int before = worlds.actualWorld;
        worlds.actualWorld = world;
        return before;
    }

    public int actual() throws IllegalStateException {
        needSomeWorld();
        return worlds.actualWorld;
    }

    public int worldCount() {
        return worlds.count;
    }

    public int atoms(int world) throws IndexOutOfBoundsException {
        needWorld(world);
        return worlds.atomsAt[world];
    }

    public int seen(int agent, int from) throws IndexOutOfBoundsException {
        needAgent(agent);
        needWorld(from);
        return worlds.arrows[agent][from];
    }

    public int arrowCount(int agent) throws IndexOutOfBoundsException {
        needAgent(agent);
        return worlds.countArrows(agent);
    }

    public int shape(int agent) throws IndexOutOfBoundsException {
        needAgent(agent);
        return (worlds.isReflexive(agent) ? REFLEXIVE : 0)
                + (worlds.isSymmetric(agent) ? SYMMETRIC : 0)
                + (worlds.isTransitive(agent) ? TRANSITIVE : 0);
    }

    // ---- formulas

    public int atom(int p) throws IndexOutOfBoundsException, IllegalStateException {
        if (p < 0 || p >= ATOMS) {
            throw new IndexOutOfBoundsException("the atom is not 0 to 5");
        }
        needRoomForFormula();
        return formulas.append(ATOM, p, NO_FORMULA, NO_FORMULA);
    }

    public int not(int a) throws IndexOutOfBoundsException, IllegalStateException {
        needFormula(a);
        needRoomForFormula();
        return formulas.append(NOT, 0, a, NO_FORMULA);
    }

    public int both(int a, int b) throws IndexOutOfBoundsException, IllegalStateException {
        needFormula(a);
        needFormula(b);
        needRoomForFormula();
        return formulas.append(BOTH, 0, a, b);
    }

    public int knows(int agent, int a) throws IndexOutOfBoundsException, IllegalStateException {
        needAgent(agent);
        needFormula(a);
        needRoomForFormula();
        return formulas.append(KNOWS, single(agent), a, NO_FORMULA);
    }

    public int ofGroup(boolean isCommon, int group, int a)
            throws IndexOutOfBoundsException, IllegalArgumentException, IllegalStateException {
        needFormula(a);
        needGroup(group);
        needRoomForFormula();
        return formulas.append(isCommon ? COMMON : SHARED, group, a, NO_FORMULA);
    }

    public int after(int a, int b)
            throws IndexOutOfBoundsException, IllegalArgumentException, IllegalStateException {
        needFormula(a);
        needFormula(b);
        if (Math.max(formulas.nestingOf[a], formulas.nestingOf[b]) >= MOST_NESTING) {
            throw new IllegalArgumentException("the nesting would be greater than 2");
        }
        needRoomForFormula();
        return formulas.append(AFTER, 0, a, b);
    }

    public int formulaCount() {
        return formulas.count;
    }

    public int depth(int formula) throws IndexOutOfBoundsException {
        needFormula(formula);
        return formulas.depthOf[formula];
    }

    public int nesting(int formula) throws IndexOutOfBoundsException {
        needFormula(formula);
        return formulas.nestingOf[formula];
    }

    // ---- questions

    public int where(int formula) throws IndexOutOfBoundsException {
        needFormula(formula);
        return truth.worldsOf(formula);
    }

    public boolean holds(int formula) throws IndexOutOfBoundsException, IllegalStateException {
        needFormula(formula);
        needSomeWorld();
        return contains(truth.worldsOf(formula), worlds.actualWorld);
    }

    public double share(int formula) throws IndexOutOfBoundsException {
        needFormula(formula);
        if (worlds.count == 0) {
            return 0.0;
        }
        return (double) Integer.bitCount(truth.worldsOf(formula)) / (double) worlds.count;
    }

    public int decided(int agent) throws IndexOutOfBoundsException, IllegalStateException {
        needAgent(agent);
        needSomeWorld();
        return worlds.sameAtomsOver(worlds.arrows[agent][worlds.actualWorld]);
    }

    public int reached(int group, int from) throws IllegalArgumentException, IndexOutOfBoundsException {
        needGroup(group);
        needWorld(from);
        return worlds.reachableFrom(group, from);
    }

    public boolean areAlike(int a, int b) throws IndexOutOfBoundsException {
        needWorld(a);
        needWorld(b);
        likeness.findClasses();
        return likeness.classOf[a] == likeness.classOf[b];
    }

    // ---- changes

    public int announce(int formula) throws IndexOutOfBoundsException, IllegalStateException {
        needFormula(formula);
        int kept = truth.worldsOf(formula);
        needActualIn(kept);
        return worlds.keepOnly(kept);
    }

    public int tell(int group, int formula) throws IndexOutOfBoundsException, IllegalArgumentException {
        needFormula(formula);
        needGroup(group);
        return worlds.cutBetween(group, truth.worldsOf(formula));
    }

    public int whisper(int group, int formula)
            throws IndexOutOfBoundsException, IllegalArgumentException, IllegalStateException {
        needFormula(formula);
        needGroup(group);
        int copied = truth.worldsOf(formula);
        needActualIn(copied);
        if (worlds.count + Integer.bitCount(copied) > MOST_WORLDS) {
            throw new IllegalStateException("there would be more than 24 worlds");
        }
        worlds.copyFor(group, copied);
        return worlds.count;
    }

    public int contract() {
        likeness.findClasses();
        worlds.mergeClasses(likeness);
        return worlds.count;
    }

    public int prune() {
        if (worlds.count == 0) {
            return 0;
        }
        int actualWorld = worlds.actualWorld;
        return worlds.keepOnly(worlds.reachableFrom(ALL_AGENTS, actualWorld) | single(actualWorld));
    }

    public long digest() {
        return formulas.addTo(worlds.addTo(DIGEST_START));
    }

    // ---- what the calls ask of their arguments and of the state

    private void needAtoms(int atoms) {
        if (atoms < 0 || atoms > ALL_ATOMS) {
            throw new IllegalArgumentException("the atoms are not 0 to 63");
        }
    }

    private void needAgent(int agent) {
        if (agent < 0 || agent >= AGENTS) {
            throw new IndexOutOfBoundsException("the agent is not 0 to 3");
        }
    }

    private void needGroup(int group) {
        if (group < 1 || group > ALL_AGENTS) {
            throw new IllegalArgumentException("the group is not 1 to 15");
        }
    }

    private void needWorld(int world) {
        if (world < 0 || world >= worlds.count) {
            throw new IndexOutOfBoundsException("there is no such world");
        }
    }

    private void needSomeWorld() {
        if (worlds.count == 0) {
            throw new IllegalStateException("there are no worlds");
        }
    }

    private void needActualIn(int set) {
        needSomeWorld();
        if (!contains(set, worlds.actualWorld)) {
            throw new IllegalStateException("the formula is false at the actual world");
        }
    }

    private void needFormula(int formula) {
        if (formula < 0 || formula >= formulas.count) {
            throw new IndexOutOfBoundsException("there is no such formula");
        }
    }

    private void needRoomForFormula() {
        if (formulas.count >= MOST_FORMULAS) {
            throw new IllegalStateException("there are 40 formulas");
        }
    }

    // ---- sets

    private static int single(int member) {
        return 1 << member;
    }

    private static boolean contains(int set, int member) {
        return (set >> member & 1) != 0;
    }

    /** The number that a member of the set has when the members are numbered from 0. */
    private static int rankIn(int set, int member) {
        return Integer.bitCount(set & (single(member) - 1));
    }

    /** What remains of the set when only the kept worlds stay, under their new numbers. */
    private static int renumbered(int set, int kept) {
        int result = 0;
        for (int w = 0; w < MOST_WORLDS; w++) {
            if (contains(set & kept, w)) {
                result |= single(rankIn(kept, w));
            }
        }
        return result;
    }

    private static long mixed(long digest, int number) {
        return digest * DIGEST_FACTOR + number;
    }

    /** The worlds with their atoms and arrows. Rows behind the last world are empty. */
    private static final class Worlds {
        final int[] atomsAt;
        /** arrows[i][w] is the set of the worlds that the agent i sees from w. */
        final int[][] arrows;
        int count;
        int actualWorld;

        Worlds() {
            atomsAt = new int[MOST_WORLDS];
            arrows = new int[AGENTS][MOST_WORLDS];
            count = 0;
            actualWorld = 0;
        }

        int all() {
            // Written out: by single() the calls of a question would go eight deep, just as many as are allowed.
            return (1 << count) - 1;
        }

        int append(int atoms) {
            int world = count;
            atomsAt[world] = atoms;
            count = world + 1;
            return world;
        }

        int joinAll(int agent, int set) {
            int added = 0;
            for (int w = 0; w < count; w++) {
                if (contains(set, w)) {
                    added += Integer.bitCount(set & ~arrows[agent][w]);
                    arrows[agent][w] |= set;
                }
            }
            return added;
        }

        int countArrows(int agent) {
            int total = 0;
            for (int w = 0; w < count; w++) {
                total += Integer.bitCount(arrows[agent][w]);
            }
            return total;
        }

        boolean isReflexive(int agent) {
            for (int w = 0; w < count; w++) {
                if (!contains(arrows[agent][w], w)) {
                    return false;
                }
            }
            return true;
        }

        boolean isSymmetric(int agent) {
            for (int v = 0; v < count; v++) {
                for (int w = 0; w < count; w++) {
                    if (contains(arrows[agent][v], w) && !contains(arrows[agent][w], v)) {
                        return false;
                    }
                }
            }
            return true;
        }

        boolean isTransitive(int agent) {
            for (int u = 0; u < count; u++) {
                int fromHere = arrows[agent][u];
                for (int v = 0; v < count; v++) {
                    if (contains(fromHere, v) && (arrows[agent][v] & ~fromHere) != 0) {
                        return false;
                    }
                }
            }
            return true;
        }

        /** The worlds that at least one agent of the group sees from a world. */
        int seenBySome(int group, int from) {
            int result = 0;
            for (int agent = 0; agent < AGENTS; agent++) {
                if (contains(group, agent)) {
                    result |= arrows[agent][from];
                }
            }
            return result;
        }

        /** The worlds that every agent of the group sees from a world. */
        int seenByEvery(int group, int from) {
            int result = all();
            for (int agent = 0; agent < AGENTS; agent++) {
                if (contains(group, agent)) {
                    result &= arrows[agent][from];
                }
            }
            return result;
        }

        int reachableFrom(int group, int from) {
            int found = seenBySome(group, from);
            // A round that finds nothing new is the last one, so there are at most as many as worlds.
            for (int round = 0; round < count; round++) {
                int before = found;
                for (int w = 0; w < count; w++) {
                    if (contains(found, w)) {
                        found |= seenBySome(group, w);
                    }
                }
                if (found == before) {
                    break;
                }
            }
            return found;
        }

        int worldsWith(int atom) {
            int result = 0;
            for (int w = 0; w < count; w++) {
                if (contains(atomsAt[w], atom)) {
                    result |= single(w);
                }
            }
            return result;
        }

        /** The atoms that are true at all worlds of the set, or false at all of them. */
        int sameAtomsOver(int set) {
            int trueAtAll = ALL_ATOMS;
            int falseAtAll = ALL_ATOMS;
            for (int w = 0; w < count; w++) {
                if (contains(set, w)) {
                    trueAtAll &= atomsAt[w];
                    falseAtAll &= ~atomsAt[w];
                }
            }
            return trueAtAll | falseAtAll;
        }

        /** Removes all worlds but the kept ones, of which the actual one is one; tells how many. */
        int keepOnly(int kept) {
            int removed = count - Integer.bitCount(kept);
            int next = 0;
            // A world's new number is never above its old one, so no row is lost before it is read.
            for (int w = 0; w < count; w++) {
                if (contains(kept, w)) {
                    atomsAt[next] = atomsAt[w];
                    for (int agent = 0; agent < AGENTS; agent++) {
                        arrows[agent][next] = renumbered(arrows[agent][w], kept);
                    }
                    next++;
                }
            }
            actualWorld = rankIn(kept, actualWorld);
            shrinkTo(next);
            return removed;
        }

        /** Removes the group's arrows between the set and the other worlds; tells how many. */
        int cutBetween(int group, int set) {
            int removed = 0;
            for (int agent = 0; agent < AGENTS; agent++) {
                if (contains(group, agent)) {
                    for (int w = 0; w < count; w++) {
                        int sameSide = contains(set, w) ? set : ~set;
                        removed += Integer.bitCount(arrows[agent][w] & ~sameSide);
                        arrows[agent][w] &= sameSide;
                    }
                }
            }
            return removed;
        }

        /** Adds the copies that a secret of the group makes; there must be room for them. */
        void copyFor(int group, int copied) {
            int oldCount = count;
            for (int w = 0; w < oldCount && count < MOST_WORLDS; w++) {
                if (contains(copied, w)) {
                    int copy = append(atomsAt[w]);
                    for (int agent = 0; agent < AGENTS; agent++) {
                        int row = arrows[agent][w];
                        arrows[agent][copy] = contains(group, agent) ? renumbered(row, copied) << oldCount : row;
                    }
                }
            }
            actualWorld = oldCount + rankIn(copied, actualWorld);
        }

        void mergeClasses(Likeness likeness) {
            int next = 0;
            // Classes are numbered by their smallest worlds, so no row is lost before it is read.
            for (int w = 0; w < count; w++) {
                if (likeness.classOf[w] == next) {
                    atomsAt[next] = atomsAt[w];
                    for (int agent = 0; agent < AGENTS; agent++) {
                        arrows[agent][next] = likeness.seenClasses[agent][w];
                    }
                    next++;
                }
            }
            actualWorld = likeness.classOf[actualWorld];
            shrinkTo(next);
        }

        private void shrinkTo(int newCount) {
            for (int w = newCount; w < count; w++) {
                atomsAt[w] = 0;
                for (int agent = 0; agent < AGENTS; agent++) {
                    arrows[agent][w] = 0;
                }
            }
            count = newCount;
        }

        long addTo(long digest) {
            long d = mixed(digest, count);
            for (int w = 0; w < count; w++) {
                d = mixed(d, atomsAt[w]);
                for (int agent = 0; agent < AGENTS; agent++) {
                    d = mixed(d, arrows[agent][w]);
                }
            }
            return mixed(d, count == 0 ? -1 : actualWorld);
        }
    }

    /** The formulas. The parts of a formula have smaller numbers than it has itself. */
    private static final class Formulas {
        final int[] kindOf;
        /** The atom of an ATOM, the group of a COMMON or SHARED, the agent of a KNOWS as a group. */
        final int[] subjectOf;
        final int[] firstOf;
        final int[] secondOf;
        final int[] depthOf;
        final int[] nestingOf;
        /** The formulas whose values in a model make the value of this one in the same model. */
        final long[] neededFor;
        int count;

        Formulas() {
            kindOf = new int[MOST_FORMULAS];
            subjectOf = new int[MOST_FORMULAS];
            firstOf = new int[MOST_FORMULAS];
            secondOf = new int[MOST_FORMULAS];
            depthOf = new int[MOST_FORMULAS];
            nestingOf = new int[MOST_FORMULAS];
            neededFor = new long[MOST_FORMULAS];
            count = 0;
        }

        int append(int kind, int subject, int first, int second) {
            int formula = count;
            kindOf[formula] = kind;
            subjectOf[formula] = subject;
            firstOf[formula] = first;
            secondOf[formula] = second;
            boolean isDeeper = kind == KNOWS || kind == COMMON || kind == SHARED;
            depthOf[formula] = greatestOf(depthOf, first, second) + (isDeeper ? 1 : 0);
            nestingOf[formula] = greatestOf(nestingOf, first, second) + (kind == AFTER ? 1 : 0);
            // The second part of an AFTER is asked in another model, so it is not needed in this one.
            long ofSecond = kind == AFTER ? 0L : neededOf(second);
            neededFor[formula] = 1L << formula | neededOf(first) | ofSecond;
            count = formula + 1;
            return formula;
        }

        private int greatestOf(int[] measure, int first, int second) {
            int ofFirst = first == NO_FORMULA ? 0 : measure[first];
            int ofSecond = second == NO_FORMULA ? 0 : measure[second];
            return Math.max(ofFirst, ofSecond);
        }

        private long neededOf(int part) {
            return part == NO_FORMULA ? 0L : neededFor[part];
        }

        long addTo(long digest) {
            long d = mixed(digest, count);
            for (int f = 0; f < count; f++) {
                d = mixed(d, kindOf[f]);
                d = mixed(d, depthOf[f]);
                d = mixed(d, nestingOf[f]);
            }
            return d;
        }
    }

    /**
     * Finds where formulas are true. The parts come before the whole, each once in a model:
     * a walk down from the whole would meet parts that are used twice again and again.
     */
    private static final class Truth {
        private final Worlds worlds;
        private final Formulas formulas;
        /** values[n][f] is where f is true in the model that n AFTERs have made of the whole one. */
        private final int[][] values;

        Truth(Worlds worlds, Formulas formulas) {
            this.worlds = worlds;
            this.formulas = formulas;
            values = new int[MOST_NESTING + 1][MOST_FORMULAS];
        }

        int worldsOf(int formula) {
            return valueIn(0, worlds.all(), formula);
        }

        /** Where the formula is true in the model that has only the given worlds. */
        private int valueIn(int level, int model, int formula) {
            // The nesting of formulas keeps the level in bounds; this is the guard that shows it.
            if (level > MOST_NESTING) {
                return 0;
            }
            long needed = formulas.neededFor[formula];
            for (int f = 0; f <= formula; f++) {
                if ((needed >> f & 1L) != 0L) {
                    values[level][f] = valueFromParts(level, model, f);
                }
            }
            return values[level][formula];
        }

        private int valueFromParts(int level, int model, int formula) {
            int subject = formulas.subjectOf[formula];
            int first = formulas.firstOf[formula];
            int second = formulas.secondOf[formula];
            int ofFirst = first == NO_FORMULA ? 0 : values[level][first];
            switch (formulas.kindOf[formula]) {
                case ATOM:
                    return model & worlds.worldsWith(subject);
                case NOT:
                    return model & ~ofFirst;
                case BOTH:
                    return second == NO_FORMULA ? 0 : ofFirst & values[level][second];
                case KNOWS:
                case SHARED:
                    return whereAllSeenAreIn(ofFirst, subject, model);
                case COMMON:
                    return whereAllReachedAreIn(ofFirst, subject, model);
                case AFTER:
                    return second == NO_FORMULA ? 0 : model & ~ofFirst | valueIn(level + 1, ofFirst, second);
                default:
                    return 0;
            }
        }

        private int whereAllSeenAreIn(int set, int group, int model) {
            int outside = model & ~set;
            int result = 0;
            for (int w = 0; w < worlds.count; w++) {
                if (contains(model, w) && (worlds.seenByEvery(group, w) & outside) == 0) {
                    result |= single(w);
                }
            }
            return result;
        }

        /** Goes back along the arrows from the worlds outside the set. */
        private int whereAllReachedAreIn(int set, int group, int model) {
            int outside = model & ~set;
            int failing = 0;
            // A round that finds nothing new is the last one, so there are at most as many as worlds.
            for (int round = 0; round <= worlds.count; round++) {
                int before = failing;
                for (int w = 0; w < worlds.count; w++) {
                    if (contains(model, w) && (worlds.seenBySome(group, w) & (outside | failing)) != 0) {
                        failing |= single(w);
                    }
                }
                if (failing == before) {
                    break;
                }
            }
            return model & ~failing;
        }
    }

    /** Finds the classes of worlds that are alike, by splitting until no class can be split. */
    private static final class Likeness {
        private final Worlds worlds;
        /** The class of each world; classes are numbered in the order of their smallest worlds. */
        final int[] classOf;
        /** seenClasses[i][w] is the set of the classes that the agent i sees from w. */
        final int[][] seenClasses;
        private final int[] finerClassOf;

        Likeness(Worlds worlds) {
            this.worlds = worlds;
            classOf = new int[MOST_WORLDS];
            seenClasses = new int[AGENTS][MOST_WORLDS];
            finerClassOf = new int[MOST_WORLDS];
        }

        void findClasses() {
            for (int w = 0; w < worlds.count; w++) {
                classOf[w] = 0;
            }
            int classCount = 1;
            // Each round but the last one makes a class more, so there are at most as many as worlds.
            for (int round = 0; round < worlds.count; round++) {
                noteSeenClasses();
                int finerCount = split();
                if (finerCount == classCount) {
                    break;
                }
                classCount = finerCount;
            }
        }

        private void noteSeenClasses() {
            for (int agent = 0; agent < AGENTS; agent++) {
                for (int w = 0; w < worlds.count; w++) {
                    seenClasses[agent][w] = classesIn(worlds.arrows[agent][w]);
                }
            }
        }

        private int classesIn(int set) {
            int result = 0;
            for (int w = 0; w < worlds.count; w++) {
                if (contains(set, w)) {
                    result |= single(classOf[w]);
                }
            }
            return result;
        }

        /** Splits the classes by atoms and seen classes; tells how many there are then. */
        private int split() {
            int finerCount = 0;
            for (int w = 0; w < worlds.count; w++) {
                int twin = firstTwinOf(w);
                if (twin == w) {
                    finerClassOf[w] = finerCount;
                    finerCount++;
                } else {
                    finerClassOf[w] = finerClassOf[twin];
                }
            }
            System.arraycopy(finerClassOf, 0, classOf, 0, MOST_WORLDS);
            return finerCount;
        }

        /** The smallest world that nothing known so far tells from this one. */
        private int firstTwinOf(int world) {
            for (int w = 0; w < world; w++) {
                if (areTwins(w, world)) {
                    return w;
                }
            }
            return world;
        }

        private boolean areTwins(int v, int w) {
            if (classOf[v] != classOf[w] || worlds.atomsAt[v] != worlds.atomsAt[w]) {
                return false;
            }
            for (int agent = 0; agent < AGENTS; agent++) {
                if (seenClasses[agent][v] != seenClasses[agent][w]) {
                    return false;
                }
            }
            return true;
        }
    }
}
