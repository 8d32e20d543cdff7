import com.sun.source.tree.AssertTree;
import com.sun.source.tree.BinaryTree;
import com.sun.source.tree.BlockTree;
import com.sun.source.tree.ClassTree;
import com.sun.source.tree.CompilationUnitTree;
import com.sun.source.tree.DoWhileLoopTree;
import com.sun.source.tree.ExpressionTree;
import com.sun.source.tree.ForLoopTree;
import com.sun.source.tree.IdentifierTree;
import com.sun.source.tree.ImportTree;
import com.sun.source.tree.LambdaExpressionTree;
import com.sun.source.tree.LiteralTree;
import com.sun.source.tree.MemberReferenceTree;
import com.sun.source.tree.MethodInvocationTree;
import com.sun.source.tree.MethodTree;
import com.sun.source.tree.NewArrayTree;
import com.sun.source.tree.NewClassTree;
import com.sun.source.tree.SynchronizedTree;
import com.sun.source.tree.ThrowTree;
import com.sun.source.tree.Tree;
import com.sun.source.tree.TryTree;
import com.sun.source.tree.TypeCastTree;
import com.sun.source.tree.VariableTree;
import com.sun.source.tree.WhileLoopTree;
import com.sun.source.util.JavacTask;
import com.sun.source.util.TreePath;
import com.sun.source.util.TreePathScanner;
import com.sun.source.util.Trees;
import java.io.IOException;
import java.net.URI;
import java.util.ArrayList;
import java.util.LinkedHashMap;
import java.util.LinkedHashSet;
import java.util.List;
import java.util.Map;
import java.util.Set;
import javax.lang.model.element.Element;
import javax.lang.model.element.ElementKind;
import javax.lang.model.element.ExecutableElement;
import javax.lang.model.element.Modifier;
import javax.lang.model.element.VariableElement;
import javax.lang.model.type.ArrayType;
import javax.lang.model.type.TypeKind;
import javax.lang.model.type.TypeMirror;
import javax.tools.JavaFileObject;
import javax.tools.SimpleJavaFileObject;
import javax.tools.ToolProvider;

/**
 * Holds a source against those rules of LANGUAGE.md that can be seen in its text. Where the class
 * needs less than a rule allows (no try, no while, nothing made but by constructors), less is
 * taken here too: a later session that needs more loosens it.
 */
final class LanguageRules extends TreePathScanner<Void, Void> {
    private static final int MOST_PARAMETERS = 7;
    private static final int MOST_LINES = 60;
    private static final int MOST_CLASSES = 12;
    private static final int MOST_FIELDS = 20;
    private static final int DEEPEST_CALL = 8;

    private static final Set<String> EXCEPTIONS = Set.of("IllegalStateException", "IllegalArgumentException",
            "IndexOutOfBoundsException", "ArithmeticException", "UnsupportedOperationException",
            "NoSuchElementException", "RuntimeException");
    private static final Set<String> IMPORTS = Set.of("java.util.ArrayList", "java.util.List", "java.util.Iterator",
            "java.util.Arrays", "java.util.NoSuchElementException");
    private static final Set<String> TYPES = Set.of("java.lang.String", "java.lang.StringBuilder",
            "java.lang.Integer", "java.util.ArrayList", "java.util.List", "java.util.Iterator",
            "java.lang.Iterable", "java.lang.Comparable");
    /** The classes whose functions over int and long are all allowed, but for those that end in Exact. */
    private static final Set<String> NUMBER_FUNCTIONS = Set.of("java.lang.Integer", "java.lang.Long", "java.lang.Math");
    private static final Set<String> FUNCTIONS = Set.of(
            "String.length", "String.charAt", "String.isEmpty", "String.equals", "String.indexOf", "String.substring",
            "String.toCharArray", "StringBuilder.append", "StringBuilder.charAt", "StringBuilder.setCharAt",
            "StringBuilder.setLength", "StringBuilder.deleteCharAt", "StringBuilder.reverse", "StringBuilder.length",
            "StringBuilder.toString", "ArrayList.add", "ArrayList.get", "ArrayList.set", "ArrayList.remove",
            "ArrayList.size", "ArrayList.isEmpty", "ArrayList.clear", "List.add", "List.get", "List.set",
            "List.remove", "List.size", "List.isEmpty", "List.clear", "List.of", "System.arraycopy",
            "Arrays.copyOf", "Arrays.copyOfRange", "Arrays.fill");

    private final List<String> faults = new ArrayList<>();
    private final Map<ExecutableElement, Set<ExecutableElement>> calls = new LinkedHashMap<>();
    private final CompilationUnitTree unit;
    private final Trees trees;
    private ExecutableElement method = null;
    private int classes = 0;

    private LanguageRules(CompilationUnitTree unit, Trees trees) {
        this.unit = unit;
        this.trees = trees;
    }

    /** What breaks a rule, each told as the rule's number, the line, and what is wrong. */
    static List<String> faultsOf(String source) throws IOException {
        URI name = URI.create("string:///KnowledgeModel.java");
        JavaFileObject file = new SimpleJavaFileObject(name, JavaFileObject.Kind.SOURCE) {
            @Override
            public CharSequence getCharContent(boolean ignoreEncodingErrors) {
                return source;
            }
        };
        List<String> errors = new ArrayList<>();
        JavacTask task = (JavacTask) ToolProvider.getSystemJavaCompiler().getTask(null, null,
                d -> errors.add("it does not compile: " + d), List.of("--release", "17"), null, List.of(file));
        CompilationUnitTree unit = task.parse().iterator().next();
        task.analyze();
        if (!errors.isEmpty()) {
            return errors;
        }
        LanguageRules rules = new LanguageRules(unit, Trees.instance(task));
        rules.scan(unit, null);
        rules.lookAtCalls();
        return rules.faults;
    }

    private void fault(int rule, Tree tree, String what) {
        long at = trees.getSourcePositions().getStartPosition(unit, tree);
        faults.add("rule " + rule + ", line " + unit.getLineMap().getLineNumber(at) + ": " + what);
    }

    private void faultIf(boolean isSo, int rule, Tree tree, String what) {
        if (isSo) {
            fault(rule, tree, what);
        }
    }

    private Element element(Tree tree) {
        return trees.getElement(new TreePath(getCurrentPath(), tree));
    }

    private TypeMirror type(Tree tree) {
        return trees.getTypeMirror(new TreePath(getCurrentPath(), tree));
    }

    private boolean isInConstructor() {
        return method != null && method.getKind() == ElementKind.CONSTRUCTOR;
    }

    private static boolean isOwn(String typeName) {
        return typeName.equals("KnowledgeModel") || typeName.startsWith("KnowledgeModel.");
    }

    // ---- the file and its classes

    @Override
    public Void visitCompilationUnit(CompilationUnitTree tree, Void none) {
        faultIf(tree.getPackageName() != null, 1, tree, "a package line");
        faultIf(tree.getTypeDecls().size() != 1, 1, tree, "not one class");
        return super.visitCompilationUnit(tree, none);
    }

    @Override
    public Void visitImport(ImportTree tree, Void none) {
        faultIf(!IMPORTS.contains(tree.getQualifiedIdentifier().toString()), 4, tree, "an import");
        return super.visitImport(tree, none);
    }

    @Override
    public Void visitClass(ClassTree tree, Void none) {
        classes++;
        faultIf(classes == MOST_CLASSES + 1, 11, tree, "more than 12 classes");
        Tree around = getCurrentPath().getParentPath().getLeaf();
        Element self = trees.getElement(getCurrentPath());
        if (around instanceof ClassTree) {
            Set<Modifier> marks = self.getModifiers();
            boolean isSeen = marks.contains(Modifier.PUBLIC) || marks.contains(Modifier.PROTECTED);
            faultIf(isSeen || !marks.contains(Modifier.STATIC), 1, tree, "a class inside that is not static, or seen");
        } else if (!(around instanceof CompilationUnitTree)) {
            fault(2, tree, "a local or anonymous class");
        }
        long fields = self.getEnclosedElements().stream()
                .filter(e -> e.getKind() == ElementKind.FIELD && !e.getModifiers().contains(Modifier.STATIC)).count();
        faultIf(fields > MOST_FIELDS, 11, tree, "more than 20 fields");
        return super.visitClass(tree, none);
    }

    @Override
    public Void visitBlock(BlockTree tree, Void none) {
        faultIf(tree.isStatic(), 5, tree, "a static initialiser");
        return super.visitBlock(tree, none);
    }

    @Override
    public Void visitVariable(VariableTree tree, Void none) {
        VariableElement self = (VariableElement) trees.getElement(getCurrentPath());
        faultIf(!isAllowed(self.asType()), 3, tree, "the type " + self.asType());
        if (self.getKind() == ElementKind.FIELD && self.getModifiers().contains(Modifier.STATIC)) {
            boolean isTable = self.asType().getKind() == TypeKind.ARRAY
                    && tree.getInitializer() instanceof NewArrayTree;
            boolean isFinal = self.getModifiers().contains(Modifier.FINAL);
            faultIf(!isFinal || self.getConstantValue() == null && !isTable, 5, tree, "static state");
        }
        return super.visitVariable(tree, none);
    }

    private static boolean isAllowed(TypeMirror type) {
        if (type.getKind() == TypeKind.ARRAY) {
            TypeMirror inside = ((ArrayType) type).getComponentType();
            boolean isRowOfNumbers = inside.getKind() == TypeKind.ARRAY
                    && ((ArrayType) inside).getComponentType().getKind().isPrimitive();
            return inside.getKind().isPrimitive() || isRowOfNumbers || isOwn(inside.toString());
        }
        String name = type.toString().replaceAll("<.*", "");
        return type.getKind().isPrimitive() || type.getKind() == TypeKind.VOID || type.getKind() == TypeKind.TYPEVAR
                || isOwn(name) || TYPES.contains(name);
    }

    // ---- methods

    @Override
    public Void visitMethod(MethodTree tree, Void none) {
        ExecutableElement outer = method;
        method = (ExecutableElement) trees.getElement(getCurrentPath());
        calls.putIfAbsent(method, new LinkedHashSet<>());
        faultIf(tree.getParameters().size() > MOST_PARAMETERS, 11, tree, "more than 7 parameters");
        faultIf(tree.getReturnType() != null && !isAllowed(method.getReturnType()), 3, tree, "the type of the answer");
        long first = trees.getSourcePositions().getStartPosition(unit, tree);
        long last = trees.getSourcePositions().getEndPosition(unit, tree);
        // A constructor that the compiler adds has no place in the file.
        if (first >= 0 && last >= 0) {
            long lines = unit.getLineMap().getLineNumber(last) - unit.getLineMap().getLineNumber(first) + 1;
            faultIf(lines > MOST_LINES, 11, tree, "a method of " + lines + " lines");
        }
        super.visitMethod(tree, none);
        method = outer;
        return null;
    }

    @Override
    public Void visitMethodInvocation(MethodInvocationTree tree, Void none) {
        ExecutableElement called = (ExecutableElement) element(tree.getMethodSelect());
        boolean isOfAbove = called.getKind() == ElementKind.CONSTRUCTOR;
        String owner = called.getEnclosingElement().toString();
        if (isOwn(owner)) {
            faultIf(isInConstructor() && !isOfAbove, 12, tree, "a constructor calls a method");
            if (method != null) {
                calls.computeIfAbsent(method, m -> new LinkedHashSet<>()).add(called);
            }
        } else if (!isOfAbove) {
            faultIf(!isListed(called, owner), 4, tree, owner + "." + called + " is not in the list");
        }
        faultIf(isInConstructor() && handsOutThis(tree.getArguments()), 12, tree, "a constructor hands out its object");
        return super.visitMethodInvocation(tree, none);
    }

    private static boolean isListed(ExecutableElement called, String owner) {
        String name = called.getSimpleName().toString();
        if (owner.equals("Array") && name.equals("clone")) {
            return true;
        }
        boolean isOverNumbers = called.getModifiers().contains(Modifier.STATIC) && !name.endsWith("Exact");
        for (VariableElement p : called.getParameters()) {
            isOverNumbers &= p.asType().getKind() == TypeKind.INT || p.asType().getKind() == TypeKind.LONG;
        }
        return NUMBER_FUNCTIONS.contains(owner) ? isOverNumbers && !called.getParameters().isEmpty()
                : FUNCTIONS.contains(owner.substring(owner.lastIndexOf('.') + 1) + "." + name)
                        && (owner.startsWith("java.lang.") || owner.startsWith("java.util."));
    }

    private static boolean handsOutThis(List<? extends ExpressionTree> arguments) {
        return arguments.stream().anyMatch(a -> a instanceof IdentifierTree i && i.getName().contentEquals("this"));
    }

    @Override
    public Void visitLambdaExpression(LambdaExpressionTree tree, Void none) {
        fault(2, tree, "a lambda");
        return super.visitLambdaExpression(tree, none);
    }

    @Override
    public Void visitMemberReference(MemberReferenceTree tree, Void none) {
        fault(2, tree, "a method reference");
        return super.visitMemberReference(tree, none);
    }

    // ---- what is made, and thrown

    @Override
    public Void visitNewClass(NewClassTree tree, Void none) {
        boolean isThrown = getCurrentPath().getParentPath().getLeaf() instanceof ThrowTree;
        faultIf(!isThrown && !isInConstructor(), 12, tree, "an object that is not made by a constructor");
        faultIf(!isThrown && !isAllowed(type(tree)), 3, tree, "the type " + type(tree));
        faultIf(isInConstructor() && handsOutThis(tree.getArguments()), 12, tree, "a constructor hands out its object");
        return super.visitNewClass(tree, none);
    }

    @Override
    public Void visitNewArray(NewArrayTree tree, Void none) {
        faultIf(method != null && !isInConstructor(), 12, tree, "an array that is not made by a constructor");
        return super.visitNewArray(tree, none);
    }

    @Override
    public Void visitThrow(ThrowTree tree, Void none) {
        faultIf(isInConstructor(), 6, tree, "a throw in a constructor");
        if (tree.getExpression() instanceof NewClassTree made) {
            List<? extends ExpressionTree> arguments = made.getArguments();
            boolean isPlain = arguments.isEmpty() || arguments.size() == 1 && arguments.get(0) instanceof LiteralTree;
            faultIf(!isPlain || !EXCEPTIONS.contains(made.getIdentifier().toString()), 6, tree, "what is thrown");
        } else {
            fault(6, tree, "a throw without new");
        }
        return super.visitThrow(tree, none);
    }

    @Override
    public Void visitTry(TryTree tree, Void none) {
        fault(6, tree, "a try");
        return super.visitTry(tree, none);
    }

    @Override
    public Void visitSynchronized(SynchronizedTree tree, Void none) {
        fault(6, tree, "a synchronized");
        return super.visitSynchronized(tree, none);
    }

    @Override
    public Void visitAssert(AssertTree tree, Void none) {
        fault(6, tree, "an assert");
        return super.visitAssert(tree, none);
    }

    @Override
    public Void visitTypeCast(TypeCastTree tree, Void none) {
        faultIf(!type(tree.getType()).getKind().isPrimitive(), 6, tree, "a cast that is not to a number");
        return super.visitTypeCast(tree, none);
    }

    // ---- loops and operators

    @Override
    public Void visitForLoop(ForLoopTree tree, Void none) {
        boolean isBound = tree.getCondition() != null && !tree.getUpdate().isEmpty();
        faultIf(!isBound, 9, tree, "a loop without a bound or a counter");
        return super.visitForLoop(tree, none);
    }

    @Override
    public Void visitWhileLoop(WhileLoopTree tree, Void none) {
        fault(9, tree, "a while");
        return super.visitWhileLoop(tree, none);
    }

    @Override
    public Void visitDoWhileLoop(DoWhileLoopTree tree, Void none) {
        fault(9, tree, "a do");
        return super.visitDoWhileLoop(tree, none);
    }

    @Override
    public Void visitBinary(BinaryTree tree, Void none) {
        String left = type(tree.getLeftOperand()).toString();
        Set<String> operands = Set.copyOf(List.of(left, type(tree.getRightOperand()).toString()));
        boolean isText = operands.contains("java.lang.String");
        boolean isBroken = operands.contains("double") || operands.contains("float");
        switch (tree.getKind()) {
            case PLUS -> faultIf(isText, 10, tree, "texts joined by +");
            case REMAINDER -> faultIf(isBroken, 3, tree, "the remainder of a double");
            case EQUAL_TO, NOT_EQUAL_TO -> {
                boolean isObjects = isText || operands.equals(Set.of("java.lang.Integer"));
                faultIf(isObjects, 6, tree, "== between texts or Integers");
            }
            default -> { }
        }
        return super.visitBinary(tree, none);
    }

    @Override
    public Void visitLiteral(LiteralTree tree, Void none) {
        if (tree.getValue() instanceof String text) {
            faultIf(!text.chars().allMatch(c -> c >= 1 && c <= 127), 4, tree, "a text with other signs than 1 to 127");
        }
        return super.visitLiteral(tree, none);
    }

    // ---- how deep calls go

    private void lookAtCalls() {
        for (ExecutableElement m : calls.keySet()) {
            int deepest = chain(m, new ArrayList<>());
            if (deepest > DEEPEST_CALL) {
                faults.add("rule 11: " + m + " calls " + deepest + " deep");
            }
            if (isReached(m, m, new LinkedHashSet<>()) && !isGuarded(m)) {
                faults.add("rule 8: " + m + " calls itself, and does not carry its depth");
            }
        }
    }

    /** The longest chain of calls from a method, each method at most once in it: more would be recursion. */
    private int chain(ExecutableElement from, List<ExecutableElement> open) {
        open.add(from);
        int longest = 0;
        for (ExecutableElement next : calls.getOrDefault(from, Set.of())) {
            if (!open.contains(next)) {
                longest = Math.max(longest, chain(next, open));
            }
        }
        open.remove(open.size() - 1);
        return longest + 1;
    }

    private boolean isReached(ExecutableElement goal, ExecutableElement from, Set<ExecutableElement> met) {
        for (ExecutableElement next : calls.getOrDefault(from, Set.of())) {
            if (next.equals(goal) || met.add(next) && isReached(goal, next, met)) {
                return true;
            }
        }
        return false;
    }

    private static boolean isGuarded(ExecutableElement m) {
        boolean isPrivate = m.getModifiers().contains(Modifier.PRIVATE);
        return isPrivate && m.getParameters().stream().anyMatch(p -> p.getSimpleName().contentEquals("level"));
    }
}
