import java.util.ArrayList;
import java.util.HashMap;
import java.util.HashSet;
import java.util.LinkedHashSet;
import java.util.List;
import java.util.Map;
import java.util.Set;

/**
 * The document once more, written as near to its words as can be, with sets of objects in place
 * of masks. RandomRunsTest holds KnowledgeModel against it.
 */
final class PlainModel {
    /** A world; numbers are its places in the list of worlds. */
    static final class World {
        int atoms;
        final List<Set<World>> sees = new ArrayList<>();

        World(int atoms) {
            this.atoms = atoms;
            for (int i = 0; i < 4; i++) {
                sees.add(new LinkedHashSet<>());
            }
        }
    }

    record Formula(int number, int kind, int subject, Formula a, Formula b) {
        @Override
        public boolean equals(Object other) {
            return this == other;
        }

        @Override
        public int hashCode() {
            return number;
        }
    }

    record Question(Formula formula, World world, Set<World> model) { }

    private final List<World> worlds = new ArrayList<>();
    private final List<Formula> formulas = new ArrayList<>();
    private World actualOne = null;

    // ---- numbers and objects

    private World world(int w) {
        if (w < 0 || w >= worlds.size()) {
            throw new IndexOutOfBoundsException();
        }
        return worlds.get(w);
    }

    private Formula formula(int f) {
        if (f < 0 || f >= formulas.size()) {
            throw new IndexOutOfBoundsException();
        }
        return formulas.get(f);
    }

    private static void outside(boolean isSo) {
        if (isSo) {
            throw new IndexOutOfBoundsException();
        }
    }

    private static void illegal(boolean isSo) {
        if (isSo) {
            throw new IllegalArgumentException();
        }
    }

    private static void untimely(boolean isSo) {
        if (isSo) {
            throw new IllegalStateException();
        }
    }

    private static boolean isIn(int set, int k) {
        return (set & (1 << k)) != 0;
    }

    private int told(Set<World> set) {
        int sum = 0;
        for (World w : set) {
            sum += 1 << worlds.indexOf(w);
        }
        return sum;
    }

    private static List<Integer> agentsOf(int group) {
        List<Integer> agents = new ArrayList<>();
        for (int i = 0; i < 4; i++) {
            if (isIn(group, i)) {
                agents.add(i);
            }
        }
        return agents;
    }

    // ---- model

    public int addWorld(int atoms) {
        illegal(atoms < 0 || atoms > 63);
        untimely(worlds.size() == 24);
        World w = new World(atoms);
        worlds.add(w);
        if (actualOne == null) {
            actualOne = w;
        }
        return worlds.size() - 1;
    }

    public int setAtoms(int world, int atoms) {
        World w = world(world);
        illegal(atoms < 0 || atoms > 63);
        int before = w.atoms;
        w.atoms = atoms;
        return before;
    }

    public boolean connect(int agent, int from, int to, boolean isOn) {
        outside(agent < 0 || agent > 3);
        World v = world(from);
        World w = world(to);
        return isOn ? !v.sees.get(agent).add(w) : v.sees.get(agent).remove(w);
    }

    public int gather(int agent, int set) {
        outside(agent < 0 || agent > 3);
        for (int k = 0; k < 32; k++) {
            illegal(isIn(set, k) && k >= worlds.size());
        }
        int made = 0;
        for (int v = 0; v < worlds.size(); v++) {
            for (int w = 0; w < worlds.size(); w++) {
                if (isIn(set, v) && isIn(set, w) && !connect(agent, v, w, true)) {
                    made++;
                }
            }
        }
        return made;
    }

    public int setActual(int world) {
        World w = world(world);
        int before = worlds.indexOf(actualOne);
        actualOne = w;
        return before;
    }

    public int actual() {
        untimely(worlds.isEmpty());
        return worlds.indexOf(actualOne);
    }

    public int worldCount() {
        return worlds.size();
    }

    public int atoms(int world) {
        return world(world).atoms;
    }

    public int seen(int agent, int from) {
        outside(agent < 0 || agent > 3);
        return told(world(from).sees.get(agent));
    }

    public int arrowCount(int agent) {
        outside(agent < 0 || agent > 3);
        int sum = 0;
        for (World w : worlds) {
            sum += w.sees.get(agent).size();
        }
        return sum;
    }

    public int shape(int agent) {
        outside(agent < 0 || agent > 3);
        boolean self = true;
        boolean back = true;
        boolean on = true;
        for (World u : worlds) {
            self &= u.sees.get(agent).contains(u);
            for (World v : u.sees.get(agent)) {
                back &= v.sees.get(agent).contains(u);
                on &= u.sees.get(agent).containsAll(v.sees.get(agent));
            }
        }
        return (self ? 1 : 0) + (back ? 2 : 0) + (on ? 4 : 0);
    }

    // ---- formulas

    private int create(int kind, int subject, Formula a, Formula b) {
        untimely(formulas.size() == 40);
        formulas.add(new Formula(formulas.size(), kind, subject, a, b));
        return formulas.size() - 1;
    }

    public int atom(int p) {
        outside(p < 0 || p > 5);
        return create(0, p, null, null);
    }

    public int not(int a) {
        return create(1, 0, formula(a), null);
    }

    public int both(int a, int b) {
        return create(2, 0, formula(a), formula(b));
    }

    public int knows(int agent, int a) {
        outside(agent < 0 || agent > 3);
        return create(3, agent, formula(a), null);
    }

    public int ofGroup(boolean isCommon, int group, int a) {
        Formula f = formula(a);
        illegal(group < 1 || group > 15);
        return create(isCommon ? 4 : 5, group, f, null);
    }

    public int after(int a, int b) {
        Formula f = formula(a);
        Formula g = formula(b);
        illegal(1 + Math.max(nesting(a), nesting(b)) > 2);
        return create(6, 0, f, g);
    }

    public int formulaCount() {
        return formulas.size();
    }

    private int measure(Formula f, boolean isDepth, Map<Formula, Integer> known) {
        if (f == null) {
            return 0;
        }
        Integer old = known.get(f);
        if (old == null) {
            boolean counts = isDepth ? f.kind >= 3 && f.kind <= 5 : f.kind == 6;
            old = Math.max(measure(f.a, isDepth, known), measure(f.b, isDepth, known)) + (counts ? 1 : 0);
            known.put(f, old);
        }
        return old;
    }

    public int depth(int formula) {
        return measure(formula(formula), true, new HashMap<>());
    }

    public int nesting(int formula) {
        return measure(formula(formula), false, new HashMap<>());
    }

    // ---- questions

    private Set<World> truth(Formula f) {
        Map<Question, Boolean> known = new HashMap<>();
        Set<World> model = new LinkedHashSet<>(worlds);
        return trueWorlds(f, model, known);
    }

    private Set<World> trueWorlds(Formula f, Set<World> model, Map<Question, Boolean> known) {
        Set<World> result = new LinkedHashSet<>();
        for (World w : model) {
            if (isTrue(f, w, model, known)) {
                result.add(w);
            }
        }
        return result;
    }

    private boolean isTrue(Formula f, World w, Set<World> model, Map<Question, Boolean> known) {
        Question question = new Question(f, w, model);
        Boolean old = known.get(question);
        if (old == null) {
            old = answer(f, w, model, known);
            known.put(question, old);
        }
        return old;
    }

    private boolean answer(Formula f, World w, Set<World> model, Map<Question, Boolean> known) {
        if (f.kind == 0) {
            return isIn(w.atoms, f.subject);
        }
        if (f.kind == 1) {
            return !isTrue(f.a, w, model, known);
        }
        if (f.kind == 2) {
            return isTrue(f.a, w, model, known) && isTrue(f.b, w, model, known);
        }
        if (f.kind == 6) {
            return !isTrue(f.a, w, model, known)
                    || isTrue(f.b, w, trueWorlds(f.a, model, known), known);
        }
        Set<World> asked = f.kind == 3 ? new HashSet<>(w.sees.get(f.subject))
                : f.kind == 4 ? walk(w, agentsOf(f.subject), model) : common(w, agentsOf(f.subject));
        asked.retainAll(model);
        for (World v : asked) {
            if (!isTrue(f.a, v, model, known)) {
                return false;
            }
        }
        return true;
    }

    private static Set<World> common(World w, List<Integer> agents) {
        Set<World> result = new HashSet<>(w.sees.get(agents.get(0)));
        for (int i : agents) {
            result.retainAll(w.sees.get(i));
        }
        return result;
    }

    private static Set<World> walk(World from, List<Integer> agents, Set<World> model) {
        Set<World> found = new HashSet<>();
        List<World> open = new ArrayList<>();
        open.add(from);
        while (!open.isEmpty()) {
            World v = open.remove(open.size() - 1);
            for (int i : agents) {
                for (World w : v.sees.get(i)) {
                    if (model.contains(w) && found.add(w)) {
                        open.add(w);
                    }
                }
            }
        }
        return found;
    }

    public int where(int formula) {
        return told(truth(formula(formula)));
    }

    public boolean holds(int formula) {
        Formula f = formula(formula);
        untimely(worlds.isEmpty());
        return truth(f).contains(actualOne);
    }

    public double share(int formula) {
        Formula f = formula(formula);
        return worlds.isEmpty() ? 0 : truth(f).size() / (double) worlds.size();
    }

    public int decided(int agent) {
        outside(agent < 0 || agent > 3);
        untimely(worlds.isEmpty());
        int sum = 0;
        for (int p = 0; p < 6; p++) {
            Set<Boolean> values = new HashSet<>();
            for (World w : actualOne.sees.get(agent)) {
                values.add(isIn(w.atoms, p));
            }
            sum += values.size() < 2 ? 1 << p : 0;
        }
        return sum;
    }

    public int reached(int group, int from) {
        illegal(group < 1 || group > 15);
        return told(walk(world(from), agentsOf(group), new HashSet<>(worlds)));
    }

    /** The greatest relation, found by taking away pairs that break its rule. */
    private boolean[][] likeness() {
        int n = worlds.size();
        boolean[][] like = new boolean[n][n];
        for (int v = 0; v < n; v++) {
            for (int w = 0; w < n; w++) {
                like[v][w] = worlds.get(v).atoms == worlds.get(w).atoms;
            }
        }
        boolean changed = true;
        while (changed) {
            changed = false;
            for (int v = 0; v < n; v++) {
                for (int w = 0; w < n; w++) {
                    if (like[v][w] && !(isMatched(v, w, like) && isMatched(w, v, like))) {
                        like[v][w] = false;
                        changed = true;
                    }
                }
            }
        }
        return like;
    }

    private boolean isMatched(int v, int w, boolean[][] like) {
        for (int i = 0; i < 4; i++) {
            for (World fromV : worlds.get(v).sees.get(i)) {
                boolean some = false;
                for (World fromW : worlds.get(w).sees.get(i)) {
                    int a = worlds.indexOf(fromV);
                    int b = worlds.indexOf(fromW);
                    some |= like[a][b] || like[b][a];
                }
                if (!some) {
                    return false;
                }
            }
        }
        return true;
    }

    public boolean areAlike(int a, int b) {
        world(a);
        world(b);
        return likeness()[a][b];
    }

    // ---- changes

    private int keep(Set<World> kept) {
        int before = worlds.size();
        worlds.retainAll(kept);
        for (World w : worlds) {
            for (int i = 0; i < 4; i++) {
                w.sees.get(i).retainAll(kept);
            }
        }
        return before - worlds.size();
    }

    public int announce(int formula) {
        Formula f = formula(formula);
        untimely(worlds.isEmpty() || !truth(f).contains(actualOne));
        return keep(truth(f));
    }

    public int tell(int group, int formula) {
        Set<World> isSo = truth(formula(formula));
        illegal(group < 1 || group > 15);
        int removed = 0;
        for (int i : agentsOf(group)) {
            for (World v : worlds) {
                for (World w : worlds) {
                    if (isSo.contains(v) != isSo.contains(w) && v.sees.get(i).remove(w)) {
                        removed++;
                    }
                }
            }
        }
        return removed;
    }

    public int whisper(int group, int formula) {
        Set<World> isSo = truth(formula(formula));
        illegal(group < 1 || group > 15);
        untimely(!isSo.contains(actualOne) || worlds.size() + isSo.size() > 24);
        Map<World, World> copies = new HashMap<>();
        List<World> old = new ArrayList<>(worlds);
        for (World w : old) {
            if (isSo.contains(w)) {
                copies.put(w, new World(w.atoms));
                worlds.add(copies.get(w));
            }
        }
        for (World w : isSo) {
            for (int i = 0; i < 4; i++) {
                for (World v : w.sees.get(i)) {
                    World end = isIn(group, i) ? copies.get(v) : v;
                    if (end != null) {
                        copies.get(w).sees.get(i).add(end);
                    }
                }
            }
        }
        actualOne = copies.get(actualOne);
        return worlds.size();
    }

    public int contract() {
        boolean[][] like = likeness();
        Map<World, World> classes = new HashMap<>();
        List<World> made = new ArrayList<>();
        for (int w = 0; w < worlds.size(); w++) {
            int smallest = 0;
            while (!like[smallest][w]) {
                smallest++;
            }
            if (smallest == w) {
                made.add(new World(worlds.get(w).atoms));
                classes.put(worlds.get(w), made.get(made.size() - 1));
            } else {
                classes.put(worlds.get(w), classes.get(worlds.get(smallest)));
            }
        }
        for (World v : worlds) {
            for (int i = 0; i < 4; i++) {
                for (World w : v.sees.get(i)) {
                    classes.get(v).sees.get(i).add(classes.get(w));
                }
            }
        }
        worlds.clear();
        worlds.addAll(made);
        actualOne = classes.get(actualOne);
        return worlds.size();
    }

    public int prune() {
        if (worlds.isEmpty()) {
            return 0;
        }
        Set<World> kept = walk(actualOne, List.of(0, 1, 2, 3), new HashSet<>(worlds));
        kept.add(actualOne);
        return keep(kept);
    }

    public long digest() {
        List<Integer> numbers = new ArrayList<>();
        numbers.add(worlds.size());
        for (World w : worlds) {
            numbers.add(w.atoms);
            for (int i = 0; i < 4; i++) {
                numbers.add(told(w.sees.get(i)));
            }
        }
        numbers.add(worlds.indexOf(actualOne));
        numbers.add(formulas.size());
        for (Formula f : formulas) {
            numbers.add(f.kind);
            numbers.add(depth(f.number));
            numbers.add(nesting(f.number));
        }
        long d = 127;
        for (int x : numbers) {
            d = d * 31 + x;
        }
        return d;
    }
}
