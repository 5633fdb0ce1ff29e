import com.sun.source.tree.ArrayAccessTree;
import com.sun.source.tree.AssertTree;
import com.sun.source.tree.BinaryTree;
import com.sun.source.tree.BlockTree;
import com.sun.source.tree.CatchTree;
import com.sun.source.tree.ClassTree;
import com.sun.source.tree.CompilationUnitTree;
import com.sun.source.tree.CompoundAssignmentTree;
import com.sun.source.tree.DoWhileLoopTree;
import com.sun.source.tree.ExpressionTree;
import com.sun.source.tree.ForLoopTree;
import com.sun.source.tree.LambdaExpressionTree;
import com.sun.source.tree.LiteralTree;
import com.sun.source.tree.MemberReferenceTree;
import com.sun.source.tree.MethodInvocationTree;
import com.sun.source.tree.MethodTree;
import com.sun.source.tree.NewClassTree;
import com.sun.source.tree.SynchronizedTree;
import com.sun.source.tree.ThrowTree;
import com.sun.source.tree.Tree;
import com.sun.source.tree.TryTree;
import com.sun.source.tree.TypeCastTree;
import com.sun.source.tree.VariableTree;
import com.sun.source.tree.WhileLoopTree;
import com.sun.source.util.TreePath;
import com.sun.source.util.TreePathScanner;
import java.util.ArrayList;
import java.util.List;
import java.util.Set;
import javax.lang.model.element.Element;
import javax.lang.model.element.ExecutableElement;
import javax.lang.model.element.Modifier;
import javax.lang.model.element.VariableElement;
import javax.lang.model.type.ArrayType;
import javax.lang.model.type.TypeKind;
import javax.lang.model.type.TypeMirror;

/**
 * What ../shared/LANGUAGE.md rules out, as far as a source shows it, rule by rule. Where the class does without
 * something that a rule allows (a list, an enum, recursion, while), that is told, too: then this is to be looked at.
 */
final class LanguageRules extends TreePathScanner<Void, Void> {
    private static final int MOST_CLASSES = 12;
    private static final int MOST_FIELDS = 20;
    private static final int MOST_PARAMETERS = 7;
    private static final int MOST_LINES = 60;
    private static final int MOST_OPEN_CALLS = 8;
    private static final Set<String> EXCEPTIONS = Set.of("IllegalStateException", "IllegalArgumentException",
        "IndexOutOfBoundsException", "ArithmeticException", "UnsupportedOperationException", "NoSuchElementException",
        "RuntimeException");
    private static final Set<String> LIBRARY = Set.of("java.lang.Math.max", "java.lang.Math.min", "java.lang.Math.abs",
        "java.lang.Math.floorDiv", "java.lang.Math.floorMod", "java.lang.System.arraycopy", "java.lang.Object.<init>",
        "java.util.Arrays.fill", "java.util.Arrays.copyOf", "java.util.Arrays.copyOfRange",
        "java.lang.Integer.compare", "java.lang.Integer.max", "java.lang.Integer.min", "java.lang.Integer.bitCount",
        "java.lang.Long.compare", "java.lang.Long.max", "java.lang.Long.min", "java.lang.Long.bitCount");
    private static final Set<Tree.Kind> COMPARISONS = Set.of(Tree.Kind.LESS_THAN, Tree.Kind.LESS_THAN_EQUAL,
        Tree.Kind.GREATER_THAN, Tree.Kind.GREATER_THAN_EQUAL, Tree.Kind.EQUAL_TO, Tree.Kind.NOT_EQUAL_TO);
    private static final Set<Tree.Kind> DIVISIONS = Set.of(Tree.Kind.DIVIDE, Tree.Kind.REMAINDER,
        Tree.Kind.DIVIDE_ASSIGNMENT, Tree.Kind.REMAINDER_ASSIGNMENT);

    private final LanguageSource source;
    private final List<String> found = new ArrayList<>();
    private final CallGraph graph = new CallGraph();
    private int classes = 0;

    private LanguageRules(LanguageSource source) {
        this.source = source;
    }

    /** What the rules have against a source, each with the rule's number and the line. */
    static List<String> against(LanguageSource source) {
        LanguageRules rules = new LanguageRules(source);
        rules.scan(source.unit, null);
        int depth = rules.graph.depth();
        if (depth < 0) {
            rules.found.add("rule 8: a method can come to call itself");
        }
        if (depth > MOST_OPEN_CALLS) {
            rules.found.add("rule 11: calls go " + depth + " deep");
        }
        if (rules.classes > MOST_CLASSES) {
            rules.found.add("rule 11: " + rules.classes + " classes");
        }
        return rules.found;
    }

    private void tell(int rule, String what, Tree where) {
        long start = source.trees.getSourcePositions().getStartPosition(source.unit, where);
        found.add("rule " + rule + ": " + what + " in line " + source.lineAt(start));
    }

    private void tellIf(boolean wrong, int rule, String what, Tree where) {
        if (wrong) {
            tell(rule, what, where);
        }
    }

    // ---- classes and their members

    @Override
    public Void visitCompilationUnit(CompilationUnitTree unit, Void none) {
        tellIf(unit.getPackageName() != null, 1, "a package", unit);
        tellIf(unit.getTypeDecls().size() != 1, 1, "more classes than one at the top", unit);
        for (Tree imported : unit.getImports()) {
            tellIf(!imported.toString().trim().equals("import java.util.NoSuchElementException;"), 4, "an import",
                imported);
        }
        return super.visitCompilationUnit(unit, none);
    }

    @Override
    public Void visitClass(ClassTree tree, Void none) {
        classes++;
        Tree around = getCurrentPath().getParentPath().getLeaf();
        boolean inside = around instanceof ClassTree;
        tellIf(!inside && !(around instanceof CompilationUnitTree), 2, "a local or anonymous class", tree);
        Set<Modifier> modifiers = tree.getModifiers().getFlags();
        tellIf(inside && !modifiers.contains(Modifier.STATIC), 1, "a class that is not static", tree);
        tellIf(inside && (modifiers.contains(Modifier.PUBLIC) || modifiers.contains(Modifier.PROTECTED)), 1,
            "a class that is seen", tree);
        tellIf(tree.getKind() != Tree.Kind.CLASS, 2, "an enum, a record or an interface", tree);
        tellIf(tree.getExtendsClause() != null || !tree.getImplementsClause().isEmpty(), 2, "a class above", tree);
        tellIf(!tree.getTypeParameters().isEmpty(), 3, "a generic class", tree);
        int fields = 0;
        for (Tree member : tree.getMembers()) {
            boolean field = member instanceof VariableTree;
            fields += field && !isStatic((VariableTree) member) ? 1 : 0;
            tellIf(member instanceof BlockTree, 5, "an initialiser block", member);
        }
        tellIf(fields > MOST_FIELDS, 11, fields + " fields", tree);
        return super.visitClass(tree, none);
    }

    private static boolean isStatic(VariableTree field) {
        return field.getModifiers().getFlags().contains(Modifier.STATIC);
    }

    @Override
    public Void visitMethod(MethodTree tree, Void none) {
        tellIf(tree.getParameters().size() > MOST_PARAMETERS, 11, "many parameters", tree);
        tellIf(lines(tree) > MOST_LINES, 11, "a long method", tree);
        tellIf(List.of("equals", "hashCode", "toString").contains(tree.getName().toString()), 6, "a method of Object",
            tree);
        tellIf(tree.getModifiers().getFlags().contains(Modifier.SYNCHRONIZED), 6, "synchronized", tree);
        if (tree.getReturnType() != null) {
            lookAtType(source.trees.getTypeMirror(new TreePath(getCurrentPath(), tree.getReturnType())), tree);
        }
        return super.visitMethod(tree, none);
    }

    private long lines(MethodTree tree) {
        long start = source.trees.getSourcePositions().getStartPosition(source.unit, tree);
        long end = source.trees.getSourcePositions().getEndPosition(source.unit, tree);
        return end < 0 ? 0 : source.lineAt(end) - source.lineAt(start) + 1;
    }

    @Override
    public Void visitVariable(VariableTree tree, Void none) {
        TypeMirror type = source.trees.getTypeMirror(getCurrentPath());
        lookAtType(type, tree);
        if (isStatic(tree)) {
            boolean constant = tree.getModifiers().getFlags().contains(Modifier.FINAL)
                && (type.getKind().isPrimitive() || type.toString().equals("java.lang.String"));
            tellIf(!constant, 5, "a static field that is no constant", tree);
        }
        return super.visitVariable(tree, none);
    }

    private void lookAtType(TypeMirror type, Tree where) {
        TypeMirror element = type;
        int dimensions = 0;
        while (element.getKind() == TypeKind.ARRAY) {
            element = ((ArrayType) element).getComponentType();
            dimensions++;
        }
        boolean basic = element.getKind().isPrimitive() || element.getKind() == TypeKind.VOID;
        tellIf(dimensions > (basic ? 2 : 1), 3, "an array of " + dimensions + " dimensions", where);
        boolean known = basic || element.toString().startsWith("EndVersions")
            || dimensions == 0 && element.toString().matches("java\\.lang\\.String(Builder)?")
            || dimensions == 0 && EXCEPTIONS.contains(lastWord(element.toString()));
        tellIf(!known, 3, "the type " + type, where);
    }

    private static String lastWord(String name) {
        return name.substring(name.lastIndexOf('.') + 1);
    }

    // ---- calls

    @Override
    public Void visitMethodInvocation(MethodInvocationTree tree, Void none) {
        lookAtCall(source.trees.getElement(getCurrentPath()), tree);
        return super.visitMethodInvocation(tree, none);
    }

    @Override
    public Void visitNewClass(NewClassTree tree, Void none) {
        Element made = source.trees.getElement(getCurrentPath());
        boolean thrown = getCurrentPath().getParentPath().getLeaf() instanceof ThrowTree;
        if (!thrown) {
            lookAtCall(made, tree);
        }
        return super.visitNewClass(tree, none);
    }

    private void lookAtCall(Element called, Tree where) {
        if (called == null) {
            tell(4, "a call that can't be told", where);
            return;
        }
        String name = called.getEnclosingElement() + "." + called.getSimpleName();
        if (name.startsWith("EndVersions")) {
            graph.add(caller(), called.getEnclosingElement() + "." + called);
            return;
        }
        boolean fractions = false;
        for (VariableElement parameter : ((ExecutableElement) called).getParameters()) {
            fractions |= isFraction(parameter.asType());
        }
        tellIf(fractions, 3, "a call over fractions, " + name, where);
        tellIf(!LIBRARY.contains(name), 4, "a call of " + name, where);
    }

    /** The method that a call stands in; what fields begin with is made by the constructor. */
    private String caller() {
        for (TreePath path = getCurrentPath(); path != null; path = path.getParentPath()) {
            Tree leaf = path.getLeaf();
            if (leaf instanceof MethodTree) {
                Element method = source.trees.getElement(path);
                return method.getEnclosingElement() + "." + method;
            }
            if (leaf instanceof ClassTree) {
                String name = source.trees.getElement(path).toString();
                return name + "." + lastWord(name) + "()";
            }
        }
        return "";
    }

    private MethodTree methodAround() {
        for (TreePath path = getCurrentPath(); path != null; path = path.getParentPath()) {
            if (path.getLeaf() instanceof MethodTree) {
                return (MethodTree) path.getLeaf();
            }
        }
        return null;
    }

    // ---- what a method must not say

    @Override
    public Void visitLambdaExpression(LambdaExpressionTree tree, Void none) {
        tell(2, "a lambda", tree);
        return super.visitLambdaExpression(tree, none);
    }

    @Override
    public Void visitMemberReference(MemberReferenceTree tree, Void none) {
        tell(2, "a method reference", tree);
        return super.visitMemberReference(tree, none);
    }

    @Override
    public Void visitSynchronized(SynchronizedTree tree, Void none) {
        tell(6, "synchronized", tree);
        return super.visitSynchronized(tree, none);
    }

    @Override
    public Void visitAssert(AssertTree tree, Void none) {
        tell(6, "assert", tree);
        return super.visitAssert(tree, none);
    }

    @Override
    public Void visitTry(TryTree tree, Void none) {
        tellIf(tree.getFinallyBlock() != null, 6, "finally", tree);
        tellIf(!tree.getResources().isEmpty(), 6, "try with resources", tree);
        return super.visitTry(tree, none);
    }

    @Override
    public Void visitCatch(CatchTree tree, Void none) {
        // The class throws what the document names and catches nothing; a catch is to be looked at.
        tell(6, "a catch", tree);
        return super.visitCatch(tree, none);
    }

    @Override
    public Void visitThrow(ThrowTree tree, Void none) {
        MethodTree method = methodAround();
        tellIf(method == null || method.getReturnType() == null, 6, "throw in a constructor", tree);
        boolean plain = false;
        if (tree.getExpression() instanceof NewClassTree) {
            NewClassTree made = (NewClassTree) tree.getExpression();
            plain = EXCEPTIONS.contains(made.getIdentifier().toString()) && isWritten(made.getArguments());
        }
        tellIf(!plain, 6, "throw of something else than a new exception with a written text", tree);
        return super.visitThrow(tree, none);
    }

    private static boolean isWritten(List<? extends ExpressionTree> arguments) {
        return arguments.isEmpty()
            || arguments.size() == 1 && arguments.get(0).getKind() == Tree.Kind.STRING_LITERAL;
    }

    @Override
    public Void visitLiteral(LiteralTree tree, Void none) {
        if (tree.getValue() instanceof String) {
            for (char sign : ((String) tree.getValue()).toCharArray()) {
                tellIf(sign < 1 || sign > 127, 4, "the sign " + (int) sign, tree);
            }
        }
        return super.visitLiteral(tree, none);
    }

    // ---- what the machine must not throw at, and loops

    @Override
    public Void visitArrayAccess(ArrayAccessTree tree, Void none) {
        String method = String.valueOf(methodAround());
        tellIf(!method.contains(tree.getExpression() + ".length"), 7, "an index that its method does not compare",
            tree);
        return super.visitArrayAccess(tree, none);
    }

    @Override
    public Void visitTypeCast(TypeCastTree tree, Void none) {
        TypeMirror type = source.trees.getTypeMirror(new TreePath(getCurrentPath(), tree.getType()));
        tellIf(!type.getKind().isPrimitive(), 7, "a cast to a class", tree);
        return super.visitTypeCast(tree, none);
    }

    @Override
    public Void visitBinary(BinaryTree tree, Void none) {
        TypeMirror left = typeOf(tree.getLeftOperand());
        TypeMirror right = typeOf(tree.getRightOperand());
        boolean texts = isText(left) || isText(right);
        tellIf(texts && tree.getKind() == Tree.Kind.PLUS, 10, "texts joined by +", tree);
        boolean sameness = tree.getKind() == Tree.Kind.EQUAL_TO || tree.getKind() == Tree.Kind.NOT_EQUAL_TO;
        tellIf(sameness && isText(left) && isText(right), 6, "texts compared by " + tree.getKind(), tree);
        tellIf((isFraction(left) || isFraction(right)) && tree.getKind() == Tree.Kind.REMAINDER, 3, "% of fractions",
            tree);
        lookAtDivisor(tree.getKind(), tree.getRightOperand());
        return super.visitBinary(tree, none);
    }

    @Override
    public Void visitCompoundAssignment(CompoundAssignmentTree tree, Void none) {
        tellIf(isText(typeOf(tree.getVariable())), 10, "texts joined by +=", tree);
        lookAtDivisor(tree.getKind(), tree.getExpression());
        return super.visitCompoundAssignment(tree, none);
    }

    private void lookAtDivisor(Tree.Kind kind, ExpressionTree divisor) {
        if (!DIVISIONS.contains(kind)) {
            return;
        }
        String words = divisor.toString().replaceAll("\\((int|long|double)\\)", "").trim();
        boolean number = words.matches("[1-9][0-9]*L?");
        boolean compared = String.valueOf(methodAround()).contains("if (" + words + " <= 0)");
        tellIf(!number && !compared, 7, "a divisor that its method does not compare", divisor);
    }

    private TypeMirror typeOf(ExpressionTree tree) {
        return source.trees.getTypeMirror(new TreePath(getCurrentPath(), tree));
    }

    private static boolean isText(TypeMirror type) {
        return type != null && type.toString().equals("java.lang.String");
    }

    private static boolean isFraction(TypeMirror type) {
        return type != null && (type.getKind() == TypeKind.DOUBLE || type.getKind() == TypeKind.FLOAT);
    }

    @Override
    public Void visitForLoop(ForLoopTree tree, Void none) {
        boolean bounded = tree.getCondition() != null && tree.getUpdate().size() == 1;
        if (bounded) {
            String step = tree.getUpdate().get(0).toString().replace(";", "");
            String counter = step.replaceAll("\\W", "");
            bounded = step.matches("\\w+(\\+\\+|--)") && isCompared(counter, tree.getCondition())
                && !isChangedIn(counter, tree.getStatement());
        }
        tellIf(!bounded, 9, "a loop without a counter that is counted and compared in its head", tree);
        return super.visitForLoop(tree, none);
    }

    /** Whether the condition is false as soon as the counter is beyond something. */
    private static boolean isCompared(String counter, ExpressionTree condition) {
        if (condition.getKind() == Tree.Kind.CONDITIONAL_AND) {
            BinaryTree both = (BinaryTree) condition;
            return isCompared(counter, both.getLeftOperand()) || isCompared(counter, both.getRightOperand());
        }
        boolean order = COMPARISONS.contains(condition.getKind()) && condition.getKind() != Tree.Kind.EQUAL_TO
            && condition.getKind() != Tree.Kind.NOT_EQUAL_TO;
        return order && ((BinaryTree) condition).getLeftOperand().toString().equals(counter);
    }

    private static boolean isChangedIn(String counter, Tree body) {
        return body.toString().matches("(?s).*\\b" + counter + "(\\+\\+|--| [-+*/%&|^]?= ).*");
    }

    @Override
    public Void visitWhileLoop(WhileLoopTree tree, Void none) {
        tell(9, "while", tree);
        return super.visitWhileLoop(tree, none);
    }

    @Override
    public Void visitDoWhileLoop(DoWhileLoopTree tree, Void none) {
        tell(9, "do", tree);
        return super.visitDoWhileLoop(tree, none);
    }
}
