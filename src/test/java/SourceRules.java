import com.sun.source.tree.*;
import com.sun.source.util.SourcePositions;
import com.sun.source.util.TreePath;
import com.sun.source.util.TreePathScanner;
import com.sun.source.util.Trees;
import java.util.ArrayList;
import java.util.LinkedHashSet;
import java.util.List;
import java.util.Map;
import java.util.Set;
import javax.lang.model.element.Element;
import javax.lang.model.element.ElementKind;
import javax.lang.model.element.ExecutableElement;
import javax.lang.model.element.Modifier;
import javax.lang.model.element.TypeElement;
import javax.lang.model.type.ArrayType;
import javax.lang.model.type.DeclaredType;
import javax.lang.model.type.TypeKind;
import javax.lang.model.type.TypeMirror;

/** Goes through the program's tree and tells each place where a rule of LANGUAGE.md is broken. */
final class SourceRules extends TreePathScanner<Void, Void> {
    private static final Map<String, Set<String>> LIBRARY = Map.of(
        "java.lang.String", Set.of("length", "charAt", "isEmpty", "equals", "indexOf", "substring", "toCharArray"),
        "java.lang.StringBuilder", Set.of("append", "charAt", "setCharAt", "setLength", "deleteCharAt", "reverse", "length", "toString"),
        "java.util.ArrayList", Set.of("add", "get", "set", "remove", "size", "isEmpty", "clear"),
        "java.util.List", Set.of("add", "get", "set", "remove", "size", "isEmpty", "clear", "of"),
        "java.lang.Integer", Set.of("compare", "max", "min", "bitCount", "signum", "abs"),
        "java.lang.Long", Set.of("compare", "max", "min", "bitCount", "signum", "abs"),
        "java.lang.Math", Set.of("max", "min", "abs", "floorDiv", "floorMod"),
        "java.lang.System", Set.of("arraycopy"),
        "java.util.Arrays", Set.of("copyOf", "copyOfRange", "fill"),
        "java.lang.Object", Set.of());
    private static final Set<String> MADE = Set.of("java.lang.StringBuilder", "java.lang.String", "java.util.ArrayList");
    private static final Set<String> HELD = Set.of("java.lang.String", "java.lang.StringBuilder", "java.lang.Integer", "java.util.ArrayList", "java.util.List");
    private static final Set<TypeKind> CONSTANTS = Set.of(TypeKind.INT, TypeKind.LONG, TypeKind.BOOLEAN, TypeKind.CHAR);
    private static final Set<TypeKind> ROWS = Set.of(TypeKind.INT, TypeKind.LONG, TypeKind.CHAR, TypeKind.BYTE);
    private static final int MOST_LINES = 60;
    private static final int MOST_FIELDS = 20;
    private static final int MOST_PARAMETERS = 7;

    private final Trees trees;
    private final CompilationUnitTree unit;
    private final CallGraph calls = new CallGraph();
    private final Set<String> guarded = new LinkedHashSet<>();
    private int classes = 0;
    private int loops = 0;
    private int wrong = 0;

    SourceRules(Trees trees, CompilationUnitTree unit) {
        this.trees = trees;
        this.unit = unit;
    }

    CallGraph calls() {
        return calls;
    }

    int classes() {
        return classes;
    }

    int wrong() {
        return wrong;
    }

    boolean hasGuard(String method) {
        return guarded.contains(method);
    }

    void check(int rule, String what, boolean kept) {
        if (!kept) {
            wrong++;
            System.out.println("rule " + rule + ": " + what);
        }
    }

    private void refuse(int rule, Tree tree) {
        check(rule, "line " + lineOf(tree) + ": " + tree.toString().lines().findFirst().orElse(""), false);
    }

    private long lineOf(Tree tree) {
        return unit.getLineMap().getLineNumber(trees.getSourcePositions().getStartPosition(unit, tree));
    }

    private Element elementOf(Tree tree) {
        return trees.getElement(new TreePath(getCurrentPath(), tree));
    }

    private TypeMirror typeOf(Tree tree) {
        return trees.getTypeMirror(new TreePath(getCurrentPath(), tree));
    }

    private static String nameOf(TypeMirror type) {
        return type instanceof DeclaredType d ? ((TypeElement) d.asElement()).getQualifiedName().toString() : String.valueOf(type);
    }

    private static boolean isOwn(Element type) {
        Element e = type;
        while (e.getEnclosingElement() != null && e.getEnclosingElement().getKind() != ElementKind.PACKAGE) e = e.getEnclosingElement();
        return e.getSimpleName().contentEquals("OneThread");
    }

    private static String nameOf(ExecutableElement method) {
        return method.getEnclosingElement().getSimpleName() + "." + method;
    }

    /** Rule 3: what a variable may be, or a method may answer. */
    private static boolean isHeld(TypeMirror type) {
        if (type instanceof ArrayType array) {
            TypeMirror part = array.getComponentType();
            if (part instanceof ArrayType second) return second.getComponentType().getKind().isPrimitive();
            return part.getKind().isPrimitive() || part instanceof DeclaredType d && isOwn(d.asElement());
        }
        if (type instanceof DeclaredType d) return isOwn(d.asElement()) || HELD.contains(nameOf(type));
        return type.getKind().isPrimitive() || type.getKind() == TypeKind.VOID;
    }

    private static boolean isText(TypeMirror type) {
        return type != null && nameOf(type).equals("java.lang.String");
    }

    @Override public Void visitPackage(PackageTree tree, Void v) {
        refuse(3, tree);
        return null;
    }

    @Override public Void visitImport(ImportTree tree, Void v) {
        Set<String> known = Set.of("java.util.Arrays", "java.util.ArrayList", "java.util.List", "java.util.Iterator");
        if (!known.contains(tree.getQualifiedIdentifier().toString())) refuse(4, tree);
        return null;
    }

    @Override public Void visitClass(ClassTree tree, Void v) {
        classes++;
        Tree above = getCurrentPath().getParentPath().getLeaf();
        boolean top = above instanceof CompilationUnitTree;
        Set<Modifier> flags = tree.getModifiers().getFlags();
        if (top && !tree.getSimpleName().contentEquals("OneThread")) refuse(1, tree);
        if (!top && !(above instanceof ClassTree && flags.contains(Modifier.STATIC))) refuse(2, tree);
        int fields = 0;
        for (Tree member : tree.getMembers()) {
            if (member instanceof VariableTree f && !f.getModifiers().getFlags().contains(Modifier.STATIC)) fields++;
            if (member instanceof BlockTree) refuse(5, member);
        }
        check(11, tree.getSimpleName() + " has " + fields + " fields", fields <= MOST_FIELDS);
        return super.visitClass(tree, v);
    }

    @Override public Void visitVariable(VariableTree tree, Void v) {
        Element element = trees.getElement(getCurrentPath());
        if (!isHeld(element.asType())) refuse(3, tree);
        if (element.getModifiers().contains(Modifier.STATIC)) checkStatic(tree, element);
        return super.visitVariable(tree, v);
    }

    private void checkStatic(VariableTree tree, Element element) {
        TypeMirror type = element.asType();
        boolean constant = CONSTANTS.contains(type.getKind()) || isText(type);
        boolean row = type instanceof ArrayType a && ROWS.contains(a.getComponentType().getKind());
        boolean written = tree.getInitializer() instanceof NewArrayTree a && a.getInitializers() != null;
        if (!element.getModifiers().contains(Modifier.FINAL) || !constant && !(row && written)) refuse(5, tree);
    }

    @Override public Void visitMethod(MethodTree tree, Void v) {
        ExecutableElement method = (ExecutableElement) trees.getElement(getCurrentPath());
        SourcePositions places = trees.getSourcePositions();
        long lines = unit.getLineMap().getLineNumber(places.getEndPosition(unit, tree)) - lineOf(tree) + 1;
        check(11, nameOf(method) + " has " + lines + " lines", lines <= MOST_LINES);
        check(11, nameOf(method) + " takes more than seven", tree.getParameters().size() <= MOST_PARAMETERS);
        if (!isHeld(method.getReturnType())) refuse(3, tree);
        boolean depth = tree.getParameters().stream().anyMatch(p -> p.getType().toString().equals("int"));
        if (method.getModifiers().contains(Modifier.PRIVATE) && depth) guarded.add(nameOf(method));
        return super.visitMethod(tree, v);
    }

    /** The method in which the walk is; what initialises a field is done by the constructor. */
    private String caller() {
        for (TreePath path = getCurrentPath(); path != null; path = path.getParentPath()) {
            Element element = trees.getElement(path);
            if (path.getLeaf() instanceof MethodTree) return nameOf((ExecutableElement) element);
            if (path.getLeaf() instanceof ClassTree) return element.getSimpleName() + "." + "made";
        }
        return "";
    }

    @Override public Void visitMethodInvocation(MethodInvocationTree tree, Void v) {
        ExecutableElement method = (ExecutableElement) trees.getElement(getCurrentPath());
        String owner = ((TypeElement) method.getEnclosingElement()).getQualifiedName().toString();
        String name = method.getSimpleName().toString();
        boolean isSuper = name.equals("<init>");
        boolean cloned = name.equals("clone") && tree.getMethodSelect() instanceof MemberSelectTree s
            && typeOf(s.getExpression()) instanceof ArrayType;
        if (!isOwn(method) && !isSuper && !cloned && !LIBRARY.getOrDefault(owner, Set.of()).contains(name)) refuse(4, tree);
        if (!isSuper) calls.add(caller(), nameOf(method));
        for (ExpressionTree argument : tree.getArguments()) if (argument.toString().equals("this")) refuse(12, tree);
        return super.visitMethodInvocation(tree, v);
    }

    @Override public Void visitNewClass(NewClassTree tree, Void v) {
        ExecutableElement made = (ExecutableElement) trees.getElement(getCurrentPath());
        TypeElement type = (TypeElement) made.getEnclosingElement();
        if (tree.getClassBody() != null) refuse(2, tree);
        if (!isOwn(type) && !MADE.contains(type.getQualifiedName().toString())) refuse(4, tree);
        if (loops > 0) refuse(12, tree);
        for (ExpressionTree argument : tree.getArguments()) if (argument.toString().equals("this")) refuse(12, tree);
        calls.add(caller(), type.getSimpleName() + ".made");
        calls.add(type.getSimpleName() + ".made", nameOf(made));
        return super.visitNewClass(tree, v);
    }

    @Override public Void visitNewArray(NewArrayTree tree, Void v) {
        if (loops > 0) refuse(12, tree);
        return super.visitNewArray(tree, v);
    }

    @Override public Void visitLambdaExpression(LambdaExpressionTree tree, Void v) {
        refuse(2, tree);
        return null;
    }

    @Override public Void visitMemberReference(MemberReferenceTree tree, Void v) {
        refuse(2, tree);
        return null;
    }

    @Override public Void visitThrow(ThrowTree tree, Void v) {
        refuse(6, tree);
        return null;
    }

    @Override public Void visitTry(TryTree tree, Void v) {
        refuse(6, tree);
        return null;
    }

    @Override public Void visitSynchronized(SynchronizedTree tree, Void v) {
        refuse(6, tree);
        return null;
    }

    @Override public Void visitAssert(AssertTree tree, Void v) {
        refuse(6, tree);
        return null;
    }

    @Override public Void visitTypeCast(TypeCastTree tree, Void v) {
        TypeMirror type = typeOf(tree.getType());
        if (!type.getKind().isPrimitive() && !(type instanceof DeclaredType d && isOwn(d.asElement()))) refuse(6, tree);
        return super.visitTypeCast(tree, v);
    }

    @Override public Void visitBinary(BinaryTree tree, Void v) {
        boolean texts = isText(typeOf(tree.getLeftOperand())) || isText(typeOf(tree.getRightOperand()));
        if (texts && tree.getKind() == Tree.Kind.PLUS) refuse(10, tree);
        if (texts && (tree.getKind() == Tree.Kind.EQUAL_TO || tree.getKind() == Tree.Kind.NOT_EQUAL_TO)) refuse(6, tree);
        boolean divides = tree.getKind() == Tree.Kind.DIVIDE || tree.getKind() == Tree.Kind.REMAINDER;
        if (divides && !isLookedAt(tree.getRightOperand())) refuse(7, tree);
        return super.visitBinary(tree, v);
    }

    /** A divisor is a number, a constant, or is compared in the same method. */
    private boolean isLookedAt(ExpressionTree divisor) {
        if (divisor instanceof LiteralTree) return true;
        Element element = elementOf(divisor);
        if (element instanceof javax.lang.model.element.VariableElement c && c.getConstantValue() != null) return true;
        TreePath path = getCurrentPath();
        while (!(path.getLeaf() instanceof MethodTree)) path = path.getParentPath();
        String method = path.getLeaf().toString();
        return method.contains("< " + divisor) || method.contains(divisor + " == 0") || method.contains(divisor + " > 0");
    }

    @Override public Void visitForLoop(ForLoopTree tree, Void v) {
        if (tree.getCondition() == null || !bounds(tree.getCondition())) refuse(9, tree);
        loops++;
        super.visitForLoop(tree, v);
        loops--;
        return null;
    }

    @Override public Void visitWhileLoop(WhileLoopTree tree, Void v) {
        if (!bounds(tree.getCondition())) refuse(9, tree);
        loops++;
        super.visitWhileLoop(tree, v);
        loops--;
        return null;
    }

    @Override public Void visitDoWhileLoop(DoWhileLoopTree tree, Void v) {
        if (!bounds(tree.getCondition())) refuse(9, tree);
        loops++;
        super.visitDoWhileLoop(tree, v);
        loops--;
        return null;
    }

    /** A loop goes on only as long as a counter is before its bound. */
    private static boolean bounds(ExpressionTree condition) {
        List<ExpressionTree> open = new ArrayList<>(List.of(condition));
        while (!open.isEmpty()) {
            ExpressionTree part = open.remove(open.size() - 1);
            if (part instanceof ParenthesizedTree p) open.add(p.getExpression());
            if (!(part instanceof BinaryTree b)) continue;
            switch (b.getKind()) {
                case LESS_THAN, LESS_THAN_EQUAL, GREATER_THAN, GREATER_THAN_EQUAL -> {
                    return true;
                }
                case CONDITIONAL_AND -> open.addAll(List.of(b.getLeftOperand(), b.getRightOperand()));
                default -> { }
            }
        }
        return false;
    }

    @Override public Void visitLiteral(LiteralTree tree, Void v) {
        if (tree.getValue() instanceof String s && !s.chars().allMatch(c -> c >= 1 && c <= 127)) refuse(4, tree);
        return null;
    }
}
