import com.sun.source.tree.*;
import com.sun.source.util.TreePath;
import com.sun.source.util.TreePathScanner;
import com.sun.source.util.Trees;
import java.util.ArrayList;
import java.util.List;
import java.util.Map;
import java.util.Set;
import java.util.TreeMap;
import java.util.TreeSet;
import javax.lang.model.element.Element;
import javax.lang.model.element.ElementKind;
import javax.lang.model.element.Modifier;
import javax.lang.model.type.ArrayType;
import javax.lang.model.type.TypeKind;
import javax.lang.model.type.TypeMirror;

/** Goes through a program, gathers what stands outside LANGUAGE.md and which method calls which. */
final class RulesScanner extends TreePathScanner<Void, Void> {
    private static final int MOST_LINES = 60, MOST_PARAMETERS = 7, MOST_FIELDS = 20, MOST_CLASSES = 12;
    /** The library that the program uses: less than rule 4 lets. */
    private static final Set<String> LIBRARY = Set.of("java.lang.String.length", "java.lang.String.charAt",
        "java.lang.Math.max", "java.lang.Math.min", "java.lang.Math.abs", "java.lang.Integer.bitCount",
        "java.lang.Long.bitCount", "java.lang.System.arraycopy", "java.util.Arrays.fill", "java.lang.Object.<init>");

    final List<String> wrong = new ArrayList<>();
    final Map<String, Set<String>> calls = new TreeMap<>();
    private int classes;
    private final CompilationUnitTree unit;
    private final Trees trees;
    private final Set<String> open = new TreeSet<>();
    private final Set<String> closed = new TreeSet<>();
    private String method = "";

    RulesScanner(CompilationUnitTree unit, Trees trees) {
        this.unit = unit;
        this.trees = trees;
    }

    @Override
    public Void scan(Tree tree, Void v) {
        if (tree != null) refuse(tree);
        return super.scan(tree, v);
    }

    private void refuse(Tree tree) {
        switch (tree.getKind()) {
            case LAMBDA_EXPRESSION, MEMBER_REFERENCE, THROW, TRY, CATCH, SYNCHRONIZED, ASSERT, INSTANCE_OF, UNION_TYPE,
                ENHANCED_FOR_LOOP, ANNOTATION, INTERFACE, ENUM, RECORD, ANNOTATION_TYPE ->
                say(tree, "rules 2, 6: " + tree.getKind());
            default -> { }
        }
    }

    @Override
    public Void visitClass(ClassTree tree, Void v) {
        Element one = trees.getElement(getCurrentPath());
        boolean inside = one.getEnclosingElement().getKind() != ElementKind.PACKAGE;
        boolean local = one.getKind() != ElementKind.CLASS || one.getSimpleName().isEmpty()
            || inside && one.getEnclosingElement().getKind() != ElementKind.CLASS;
        if (local || inside && !one.getModifiers().contains(Modifier.STATIC)) say(tree, "rule 2: " + tree.getSimpleName());
        if (++classes > MOST_CLASSES) say(tree, "rule 11: a class too many");
        int fields = 0;
        for (Tree member : tree.getMembers()) {
            if (member.getKind() == Tree.Kind.BLOCK) say(member, "rule 5: an initialiser block");
            if (member instanceof VariableTree field && !field.getModifiers().getFlags().contains(Modifier.STATIC)) fields++;
        }
        if (fields > MOST_FIELDS) say(tree, "rule 11: fields of " + tree.getSimpleName());
        String outer = method;
        method = tree.getSimpleName() + ".<init>";
        super.visitClass(tree, v);
        method = outer;
        return null;
    }

    @Override
    public Void visitMethod(MethodTree tree, Void v) {
        String name = tree.getName().toString();
        boolean isOpen = tree.getModifiers().getFlags().contains(Modifier.PUBLIC);
        if ((isOpen ? closed : open).contains(name)) say(tree, "rule 1: " + name + " is public and not");
        if (!name.equals("<init>")) (isOpen ? open : closed).add(name);
        if (tree.getParameters().size() > MOST_PARAMETERS) say(tree, "rule 11: parameters of " + name);
        if (tree.getBody() != null && linesOf(tree) > MOST_LINES) say(tree, "rule 11: lines of " + name);
        String outer = method;
        method = nameOf(trees.getElement(getCurrentPath()));
        calls.computeIfAbsent(method, m -> new TreeSet<>());
        super.visitMethod(tree, v);
        method = outer;
        return null;
    }

    @Override
    public Void visitMethodInvocation(MethodInvocationTree tree, Void v) {
        Element called = trees.getElement(getCurrentPath());
        String name = called.getEnclosingElement() + "." + called.getSimpleName();
        if (isOwn(called.getEnclosingElement())) call(nameOf(called));
        else if (!LIBRARY.contains(name)) say(tree, "rule 4: " + name);
        return super.visitMethodInvocation(tree, v);
    }

    @Override
    public Void visitNewClass(NewClassTree tree, Void v) {
        Element made = trees.getElement(getCurrentPath());
        if (!isInConstructor()) say(tree, "rule 12: new in " + method);
        if (isOwn(made.getEnclosingElement())) call(nameOf(made));
        else say(tree, "rule 4: new " + made.getEnclosingElement());
        return super.visitNewClass(tree, v);
    }

    @Override
    public Void visitNewArray(NewArrayTree tree, Void v) {
        if (!isInConstructor()) say(tree, "rule 12: new in " + method);
        return super.visitNewArray(tree, v);
    }

    @Override
    public Void visitVariable(VariableTree tree, Void v) {
        Element one = trees.getElement(getCurrentPath());
        TypeMirror type = one.asType();
        if (!isAllowed(type)) say(tree, "rule 3: " + type + " " + tree.getName());
        Set<Modifier> is = one.getModifiers();
        if (is.contains(Modifier.STATIC) && !isConstant(tree, one)) say(tree, "rule 5: " + tree.getName());
        if (is.contains(Modifier.VOLATILE) || is.contains(Modifier.TRANSIENT)) say(tree, "rule 6: " + tree.getName());
        return super.visitVariable(tree, v);
    }

    @Override
    public Void visitTypeCast(TypeCastTree tree, Void v) {
        if (!typeOf(tree.getType()).getKind().isPrimitive()) say(tree, "rule 6: a cast to " + tree.getType());
        return super.visitTypeCast(tree, v);
    }

    @Override
    public Void visitBinary(BinaryTree tree, Void v) {
        boolean texts = isText(tree.getLeftOperand()) || isText(tree.getRightOperand());
        if (texts) say(tree, "rules 6, 10: " + tree.getKind() + " of texts");
        boolean divides = tree.getKind() == Tree.Kind.DIVIDE || tree.getKind() == Tree.Kind.REMAINDER;
        if (divides) checkDivisor(tree, tree.getRightOperand());
        return super.visitBinary(tree, v);
    }

    @Override
    public Void visitWhileLoop(WhileLoopTree tree, Void v) {
        if (isAlways(tree.getCondition())) say(tree, "rule 9: a loop without an end");
        return super.visitWhileLoop(tree, v);
    }

    @Override
    public Void visitDoWhileLoop(DoWhileLoopTree tree, Void v) {
        if (isAlways(tree.getCondition())) say(tree, "rule 9: a loop without an end");
        return super.visitDoWhileLoop(tree, v);
    }

    @Override
    public Void visitForLoop(ForLoopTree tree, Void v) {
        if (tree.getCondition() == null || isAlways(tree.getCondition())) say(tree, "rule 9: a loop without an end");
        return super.visitForLoop(tree, v);
    }

    @Override
    public Void visitAssignment(AssignmentTree tree, Void v) {
        checkWritten(tree.getVariable());
        return super.visitAssignment(tree, v);
    }

    @Override
    public Void visitCompoundAssignment(CompoundAssignmentTree tree, Void v) {
        checkWritten(tree.getVariable());
        boolean divides = tree.getKind() == Tree.Kind.DIVIDE_ASSIGNMENT || tree.getKind() == Tree.Kind.REMAINDER_ASSIGNMENT;
        if (divides) checkDivisor(tree, tree.getExpression());
        return super.visitCompoundAssignment(tree, v);
    }

    @Override
    public Void visitUnary(UnaryTree tree, Void v) {
        boolean writes = tree.getKind().toString().endsWith("CREMENT");
        if (writes) checkWritten(tree.getExpression());
        return super.visitUnary(tree, v);
    }

    /** A constant; any other divisor has to be looked at by hand and to be named here. */
    private void checkDivisor(Tree tree, ExpressionTree divisor) {
        boolean number = divisor instanceof LiteralTree && !divisor.toString().equals("0");
        if (!number && !Set.of("COLUMNS", "stepCount", "n").contains(divisor.toString())) say(tree, "a divisor: " + divisor);
    }

    /** An array that is a constant is never changed. */
    private void checkWritten(ExpressionTree variable) {
        if (!(variable instanceof ArrayAccessTree place)) return;
        Element row = trees.getElement(new TreePath(getCurrentPath(), place.getExpression()));
        if (row != null && row.getModifiers().contains(Modifier.STATIC)) say(variable, "rule 5: " + variable + " is changed");
    }

    private boolean isConstant(VariableTree tree, Element one) {
        if (!one.getModifiers().contains(Modifier.FINAL) || tree.getInitializer() == null) return false;
        TypeMirror type = one.asType();
        if (!(type instanceof ArrayType row)) return type.getKind().isPrimitive() || type.toString().equals("java.lang.String");
        boolean numbers = Set.of(TypeKind.INT, TypeKind.LONG, TypeKind.CHAR, TypeKind.BYTE).contains(row.getComponentType().getKind());
        return numbers && tree.getInitializer() instanceof NewArrayTree made && made.getDimensions().isEmpty();
    }

    private boolean isAllowed(TypeMirror type) {
        if (!(type instanceof ArrayType row)) {
            boolean whole = type.getKind().isPrimitive() && type.getKind() != TypeKind.FLOAT && type.getKind() != TypeKind.DOUBLE;
            return whole || type.toString().equals("java.lang.String") || isOwn(type);
        }
        TypeMirror of = row.getComponentType();
        if (of instanceof ArrayType inner) return inner.getComponentType().getKind().isPrimitive();
        return of.getKind().isPrimitive() || isOwn(of);
    }

    private boolean isOwn(TypeMirror type) {
        return type instanceof javax.lang.model.type.DeclaredType declared && isOwn(declared.asElement());
    }

    private boolean isOwn(Element type) {
        TreePath path = trees.getPath(type);
        return path != null && path.getCompilationUnit() == unit;
    }

    private boolean isText(Tree tree) {
        return typeOf(tree).toString().equals("java.lang.String");
    }

    private static boolean isAlways(ExpressionTree condition) {
        String bare = condition.toString().replaceAll("[()]", "");
        return bare.equals("true");
    }

    private TypeMirror typeOf(Tree tree) {
        return trees.getTypeMirror(trees.getPath(unit, tree));
    }

    private boolean isInConstructor() {
        return method.endsWith(".<init>");
    }

    private void call(String called) {
        calls.computeIfAbsent(method, m -> new TreeSet<>()).add(called);
    }

    private static String nameOf(Element method) {
        return method.getEnclosingElement().getSimpleName() + "." + method.getSimpleName();
    }

    private long linesOf(Tree tree) {
        LineMap lines = unit.getLineMap();
        var places = trees.getSourcePositions();
        long first = lines.getLineNumber(places.getStartPosition(unit, tree));
        return lines.getLineNumber(places.getEndPosition(unit, tree)) - first + 1;
    }

    private void say(Tree tree, String what) {
        long line = unit.getLineMap().getLineNumber(trees.getSourcePositions().getStartPosition(unit, tree));
        wrong.add("line " + line + ", " + what);
    }
}
