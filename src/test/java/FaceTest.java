import java.lang.reflect.Constructor;
import java.lang.reflect.Field;
import java.lang.reflect.Method;
import java.lang.reflect.Modifier;
import java.util.Set;
import java.util.TreeSet;

/** The public face has just what the document lists, and what LANGUAGE.md leaves beside it. */
public final class FaceTest {
    private static final String I = "IndexOutOfBoundsException";
    private static final String A = "IllegalArgumentException";
    private static final String S = "IllegalStateException";
    private static final String[] FACE = {
        "int addWorld(int) " + A + " " + S,
        "int setAtoms(int,int) " + I + " " + A,
        "boolean connect(int,int,int,boolean) " + I,
        "int gather(int,int) " + I + " " + A,
        "int setActual(int) " + I,
        "int actual() " + S,
        "int worldCount()",
        "int atoms(int) " + I,
        "int seen(int,int) " + I,
        "int arrowCount(int) " + I,
        "int shape(int) " + I,
        "int atom(int) " + I + " " + S,
        "int not(int) " + I + " " + S,
        "int both(int,int) " + I + " " + S,
        "int knows(int,int) " + I + " " + S,
        "int ofGroup(boolean,int,int) " + I + " " + A + " " + S,
        "int after(int,int) " + I + " " + A + " " + S,
        "int formulaCount()",
        "int depth(int) " + I,
        "int nesting(int) " + I,
        "int where(int) " + I,
        "boolean holds(int) " + I + " " + S,
        "double share(int) " + I,
        "int decided(int) " + I + " " + S,
        "int reached(int,int) " + A + " " + I,
        "boolean areAlike(int,int) " + I,
        "int announce(int) " + I + " " + S,
        "int tell(int,int) " + I + " " + A,
        "int whisper(int,int) " + I + " " + A + " " + S,
        "int contract()",
        "int prune()",
        "long digest()"
    };

    private static final Check check = new Check();

    public static void main(String[] args) {
        Class<?> face = KnowledgeModel.class;
        check.due("the class's modifiers", Modifier.toString(face.getModifiers()), "public final");
        Set<String> found = new TreeSet<>();
        Set<String> publicNames = new TreeSet<>();
        for (Method m : face.getDeclaredMethods()) {
            if (!Modifier.isPrivate(m.getModifiers())) {
                found.add(told(m));
                publicNames.add(m.getName());
                check.due("the modifiers of " + m.getName(), Modifier.toString(m.getModifiers()), "public");
            }
        }
        check.due("the face", found, new TreeSet<>(Set.of(FACE)));
        for (Constructor<?> c : face.getDeclaredConstructors()) {
            check.due("the constructor", c.toString(), "public KnowledgeModel()");
        }
        for (Field f : face.getDeclaredFields()) {
            check.due("field " + f.getName() + " is private", Modifier.isPrivate(f.getModifiers()), true);
            check.due("field " + f.getName() + " is final", Modifier.isFinal(f.getModifiers()), true);
        }
        noPrivateMethodHasAPublicName(face, publicNames);
        for (Class<?> inside : face.getDeclaredClasses()) {
            check.due(inside.getName() + " is static", Modifier.isStatic(inside.getModifiers()), true);
            check.due(inside.getName() + " is public", Modifier.isPublic(inside.getModifiers()), false);
            noPrivateMethodHasAPublicName(inside, publicNames);
        }
        check.end("FaceTest");
    }

    private static void noPrivateMethodHasAPublicName(Class<?> c, Set<String> publicNames) {
        for (Method m : c.getDeclaredMethods()) {
            if (c != KnowledgeModel.class || Modifier.isPrivate(m.getModifiers())) {
                check.due(m + " has a public name", publicNames.contains(m.getName()), false);
            }
        }
    }

    private static String told(Method m) {
        StringBuilder text = new StringBuilder(m.getReturnType().getName() + " " + m.getName() + "(");
        for (Class<?> p : m.getParameterTypes()) {
            text.append(text.charAt(text.length() - 1) == '(' ? "" : ",").append(p.getName());
        }
        text.append(")");
        for (Class<?> e : m.getExceptionTypes()) {
            text.append(" ").append(e.getSimpleName());
        }
        return text.toString();
    }
}
