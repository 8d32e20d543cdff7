import java.lang.reflect.InvocationTargetException;
import java.lang.reflect.Method;

/** Compares answers with the ones that are due, and counts those that are not. */
final class Check {
    /** A call that may throw. */
    interface Call {
        Object answer();
    }

    private int checks = 0;
    private int wrong = 0;

    void due(String what, Object got, Object want) {
        checks++;
        if (!want.equals(got)) {
            wrong++;
            System.out.println(what + " answered " + got + ", due is " + want);
        }
    }

    /** The call must throw just this class of exception, and leave the model as it was. */
    void refused(String what, KnowledgeModel x, Class<?> want, Call call) {
        long before = x.digest();
        due(what, outcome(call), "throws " + want.getName());
        due("digest() after the refused " + what, x.digest(), before);
    }

    void outside(String what, KnowledgeModel x, Call call) {
        refused(what, x, IndexOutOfBoundsException.class, call);
    }

    void illegal(String what, KnowledgeModel x, Call call) {
        refused(what, x, IllegalArgumentException.class, call);
    }

    void untimely(String what, KnowledgeModel x, Call call) {
        refused(what, x, IllegalStateException.class, call);
    }

    static Object outcome(Call call) {
        try {
            return call.answer();
        } catch (RuntimeException e) {
            return "throws " + e.getClass().getName();
        }
    }

    /** What the named call on an object answers or throws. */
    static Object outcome(Object on, String name, Object... arguments) throws ReflectiveOperationException {
        for (Method m : on.getClass().getMethods()) {
            if (m.getName().equals(name)) {
                m.setAccessible(true);
                try {
                    return m.invoke(on, arguments);
                } catch (InvocationTargetException e) {
                    return "throws " + e.getCause().getClass().getName();
                }
            }
        }
        throw new NoSuchMethodException(name);
    }

    /** Ends the program, with exit code 1 if an answer was wrong. */
    void end(String name) {
        System.out.println(name + ": " + checks + " checks, " + wrong + " wrong");
        if (wrong != 0 || checks == 0) {
            System.exit(1);
        }
    }

    /** A model with a world for each of the given sets of atoms. */
    static KnowledgeModel model(int... atoms) {
        KnowledgeModel x = new KnowledgeModel();
        for (int a : atoms) {
            x.addWorld(a);
        }
        return x;
    }

    /** Makes arrows of an agent, told as pairs: from, to. */
    static void arrows(KnowledgeModel x, int agent, int... pairs) {
        for (int k = 0; k + 1 < pairs.length; k += 2) {
            x.connect(agent, pairs[k], pairs[k + 1], true);
        }
    }

    /** Fills the model up to 40 formulas. */
    static void fillFormulas(KnowledgeModel x) {
        while (x.formulaCount() < 40) {
            x.atom(0);
        }
    }

    /** The sets of the worlds that an agent sees, from each world, as a text. */
    static String rows(KnowledgeModel x, int agent) {
        StringBuilder text = new StringBuilder();
        for (int w = 0; w < x.worldCount(); w++) {
            text.append(w == 0 ? "" : " ").append(x.seen(agent, w));
        }
        return text.toString();
    }

    /** The atoms of each world, as a text. */
    static String atomRow(KnowledgeModel x) {
        StringBuilder text = new StringBuilder();
        for (int w = 0; w < x.worldCount(); w++) {
            text.append(w == 0 ? "" : " ").append(x.atoms(w));
        }
        return text.toString();
    }
}
