import com.sun.source.tree.AnnotationTree;
import com.sun.source.tree.AssertTree;
import com.sun.source.tree.BinaryTree;
import com.sun.source.tree.BlockTree;
import com.sun.source.tree.ClassTree;
import com.sun.source.tree.CompilationUnitTree;
import com.sun.source.tree.CompoundAssignmentTree;
import com.sun.source.tree.DoWhileLoopTree;
import com.sun.source.tree.EnhancedForLoopTree;
import com.sun.source.tree.ExpressionTree;
import com.sun.source.tree.ForLoopTree;
import com.sun.source.tree.ImportTree;
import com.sun.source.tree.InstanceOfTree;
import com.sun.source.tree.LambdaExpressionTree;
import com.sun.source.tree.LiteralTree;
import com.sun.source.tree.MemberReferenceTree;
import com.sun.source.tree.MethodInvocationTree;
import com.sun.source.tree.MethodTree;
import com.sun.source.tree.NewArrayTree;
import com.sun.source.tree.NewClassTree;
import com.sun.source.tree.SwitchExpressionTree;
import com.sun.source.tree.SynchronizedTree;
import com.sun.source.tree.ThrowTree;
import com.sun.source.tree.Tree;
import com.sun.source.tree.TryTree;
import com.sun.source.tree.TypeCastTree;
import com.sun.source.tree.VariableTree;
import com.sun.source.tree.WhileLoopTree;
import com.sun.source.util.TreePath;
import com.sun.source.util.TreePathScanner;
import com.sun.source.util.Trees;
import java.util.Set;
import java.util.TreeSet;
import javax.lang.model.element.Element;
import javax.lang.model.element.ElementKind;
import javax.lang.model.element.ExecutableElement;
import javax.lang.model.element.Modifier;
import javax.lang.model.element.TypeElement;
import javax.lang.model.element.VariableElement;
import javax.lang.model.type.ArrayType;
import javax.lang.model.type.DeclaredType;
import javax.lang.model.type.TypeKind;
import javax.lang.model.type.TypeMirror;

/**
 * Holds the program against the rules of LANGUAGE.md by its tree. What the rules allow and the program does not use
 * (enums, records, interfaces, inner classes, try, recursion, casts of references) is told as wrong here too: who
 * comes to use it, puts the rule's own conditions in its place.
 */
final class Rules extends TreePathScanner<Void, Void> {
    private static final int MOST_LINES = 60, MOST_PARAMETERS = 7, MOST_CLASSES = 12, MOST_FIELDS = 20, DEEPEST = 8;
    private static final Set<String> IMPORTS = Set.of("java.util.ArrayList", "java.util.List", "java.util.Arrays",
        "java.util.Iterator", "java.util.NoSuchElementException");
    private static final Set<String> TYPES = Set.of("java.lang.String", "java.lang.StringBuilder", "java.lang.Integer");
    private static final Set<String> LISTS = Set.of("java.util.ArrayList", "java.util.List");
    private static final Set<String> LIBRARY = Set.of(
        "String.length", "String.charAt", "String.isEmpty", "String.equals", "String.indexOf", "String.substring",
        "String.toCharArray", "StringBuilder.append", "StringBuilder.charAt", "StringBuilder.setCharAt",
        "StringBuilder.setLength", "StringBuilder.deleteCharAt", "StringBuilder.reverse", "StringBuilder.length",
        "StringBuilder.toString", "ArrayList.add", "ArrayList.get", "ArrayList.set", "ArrayList.remove",
        "ArrayList.size", "ArrayList.isEmpty", "ArrayList.clear", "List.add", "List.get", "List.set", "List.remove",
        "List.size", "List.isEmpty", "List.clear", "System.arraycopy", "Arrays.copyOf", "Arrays.copyOfRange",
        "Arrays.fill", "Object.clone");
    private static final Set<String> EXCEPTIONS = Set.of("IllegalStateException", "IllegalArgumentException",
        "IndexOutOfBoundsException", "ArithmeticException", "UnsupportedOperationException", "NoSuchElementException",
        "RuntimeException");

    private final Trees trees;
    private final CompilationUnitTree unit;
    private final Calls calls = new Calls();
    private final Set<String> publicNames = new TreeSet<>();
    private final Set<String> privateNames = new TreeSet<>();
    private int classes = 0;

    Rules(Trees trees, CompilationUnitTree unit) {
        this.trees = trees;
        this.unit = unit;
    }

    void end() {
        Check.holds("some twelve classes, not " + classes, classes <= MOST_CLASSES);
        privateNames.retainAll(publicNames);
        Check.holds("no private method with a public one's name, not " + privateNames, privateNames.isEmpty());
        Check.holds("no package", unit.getPackageName() == null);
        calls.end(DEEPEST);
    }

    /** Tells the place of what is looked at, ahead of what should hold of it. */
    private void holds(String what, boolean got) {
        long at = trees.getSourcePositions().getStartPosition(unit, getCurrentPath().getLeaf());
        long line = at < 0 ? 0 : unit.getLineMap().getLineNumber(at);
        Check.holds("line " + line + ": " + what, got);
    }

    private void none(String what) {
        holds("no " + what, false);
    }

    private Element element() {
        return trees.getElement(getCurrentPath());
    }

    private TypeMirror typeOf(Tree tree) {
        return trees.getTypeMirror(new TreePath(getCurrentPath(), tree));
    }

    private static boolean isOwn(Element type) {
        Element at = type;
        while (at.getEnclosingElement() != null && at.getEnclosingElement().getKind() != ElementKind.PACKAGE) {
            at = at.getEnclosingElement();
        }
        return at.getSimpleName().contentEquals("Amendmark");
    }

    private static String nameOf(Element type) {
        return ((TypeElement) type).getQualifiedName().toString();
    }

    // ---- rules 1 and 2: the classes and their members

    @Override
    public Void visitImport(ImportTree tree, Void nothing) {
        holds("the import " + tree.getQualifiedIdentifier(),
            !tree.isStatic() && IMPORTS.contains(tree.getQualifiedIdentifier().toString()));
        return super.visitImport(tree, nothing);
    }

    @Override
    public Void visitClass(ClassTree tree, Void nothing) {
        classes++;
        Set<Modifier> modifiers = tree.getModifiers().getFlags();
        boolean isOuter = getCurrentPath().getParentPath().getLeaf() == unit;
        holds("a class", tree.getKind() == Tree.Kind.CLASS && tree.getExtendsClause() == null
            && tree.getImplementsClause().isEmpty() && tree.getTypeParameters().isEmpty());
        if (isOuter) {
            holds("public and final", modifiers.equals(Set.of(Modifier.PUBLIC, Modifier.FINAL)));
        } else {
            holds("inside a class", getCurrentPath().getParentPath().getLeaf() instanceof ClassTree);
            holds("static, and private or package-visible", modifiers.contains(Modifier.STATIC)
                && !modifiers.contains(Modifier.PUBLIC) && !modifiers.contains(Modifier.PROTECTED));
        }
        int fields = 0;
        for (Tree member : tree.getMembers()) {
            boolean isStatic = member instanceof VariableTree
                && ((VariableTree) member).getModifiers().getFlags().contains(Modifier.STATIC);
            fields += member instanceof VariableTree && !isStatic ? 1 : 0;
            holds("no block of its own", !(member instanceof BlockTree));
        }
        holds("some twenty fields, not " + fields, fields <= MOST_FIELDS);
        return super.visitClass(tree, nothing);
    }

    @Override
    public Void visitMethod(MethodTree tree, Void nothing) {
        ExecutableElement method = (ExecutableElement) element();
        holds("at most seven parameters", tree.getParameters().size() <= MOST_PARAMETERS);
        holds("no type parameters", tree.getTypeParameters().isEmpty());
        holds("the type it returns", isAllowed(method.getReturnType()));
        holds("no equals, hashCode or toString", !Set.of("equals", "hashCode", "toString").contains(tree.getName().toString()));
        for (TypeMirror thrown : method.getThrownTypes()) {
            holds("it throws " + thrown, isAllowedToThrow(thrown));
        }
        if (tree.getBody() != null && trees.getSourcePositions().getEndPosition(unit, tree) >= 0) {
            long from = unit.getLineMap().getLineNumber(trees.getSourcePositions().getStartPosition(unit, tree));
            long to = unit.getLineMap().getLineNumber(trees.getSourcePositions().getEndPosition(unit, tree));
            holds("short", to - from < MOST_LINES);
        }
        if (method.getEnclosingElement().getSimpleName().contentEquals("Amendmark")
            && method.getKind() != ElementKind.CONSTRUCTOR) {
            (method.getModifiers().contains(Modifier.PUBLIC) ? publicNames : privateNames).add(tree.getName().toString());
        }
        if (method.getModifiers().contains(Modifier.PUBLIC)) {
            calls.face(method);
        }
        return super.visitMethod(tree, nothing);
    }

    @Override
    public Void visitLambdaExpression(LambdaExpressionTree tree, Void nothing) {
        none("lambda");
        return super.visitLambdaExpression(tree, nothing);
    }

    @Override
    public Void visitMemberReference(MemberReferenceTree tree, Void nothing) {
        none("method reference");
        return super.visitMemberReference(tree, nothing);
    }

    @Override
    public Void visitAnnotation(AnnotationTree tree, Void nothing) {
        none("annotation");
        return super.visitAnnotation(tree, nothing);
    }

    // ---- rules 3 and 5: types and fields

    private boolean isAllowed(TypeMirror type) {
        if (type.getKind() == TypeKind.ARRAY) {
            TypeMirror inner = ((ArrayType) type).getComponentType();
            boolean isOfNumbers = inner.getKind() == TypeKind.ARRAY && ((ArrayType) inner).getComponentType().getKind().isPrimitive();
            boolean isOfOwn = inner.getKind() == TypeKind.DECLARED && isOwn(((DeclaredType) inner).asElement());
            return inner.getKind().isPrimitive() || isOfNumbers || isOfOwn;
        }
        if (type.getKind() != TypeKind.DECLARED) {
            return type.getKind().isPrimitive() || type.getKind() == TypeKind.VOID;
        }
        Element of = ((DeclaredType) type).asElement();
        if (LISTS.contains(nameOf(of))) {
            return ((DeclaredType) type).getTypeArguments().stream().allMatch(Rules::isListed)
                && ((DeclaredType) type).getTypeArguments().size() == 1;
        }
        return isOwn(of) || TYPES.contains(nameOf(of));
    }

    private static boolean isListed(TypeMirror type) {
        Element of = type.getKind() == TypeKind.DECLARED ? ((DeclaredType) type).asElement() : null;
        return of != null && (isOwn(of) || nameOf(of).equals("java.lang.Integer"));
    }

    @Override
    public Void visitVariable(VariableTree tree, Void nothing) {
        VariableElement variable = (VariableElement) element();
        holds("the type of " + tree.getName(), isAllowed(variable.asType()));
        boolean isFloating = variable.asType().getKind() == TypeKind.DOUBLE || variable.asType().getKind() == TypeKind.FLOAT;
        holds("no double or float, that could answer NaN", !isFloating);
        if (variable.getModifiers().contains(Modifier.STATIC)) {
            holds("the static field " + tree.getName() + " is a constant",
                variable.getModifiers().contains(Modifier.FINAL) && variable.getConstantValue() != null);
        } else if (variable.getKind() == ElementKind.FIELD) {
            holds("no visible field of the face",
                variable.getModifiers().contains(Modifier.PRIVATE) || !isOfFace(variable));
        }
        return super.visitVariable(tree, nothing);
    }

    private static boolean isOfFace(Element member) {
        return member.getEnclosingElement().getSimpleName().contentEquals("Amendmark");
    }

    @Override
    public Void visitNewArray(NewArrayTree tree, Void nothing) {
        holds("an array of the types that there are", isAllowed(typeOf(tree)));
        for (ExpressionTree length : tree.getDimensions()) {
            holds("an array's length is a constant above 0", constantOf(length) > 0);
        }
        return super.visitNewArray(tree, nothing);
    }

    /** A literal or a constant; 0 if it is none. */
    private long constantOf(ExpressionTree tree) {
        Object value = tree instanceof LiteralTree ? ((LiteralTree) tree).getValue() : null;
        Element named = trees.getElement(new TreePath(getCurrentPath(), tree));
        if (named instanceof VariableElement) {
            value = ((VariableElement) named).getConstantValue();
        }
        return value instanceof Integer ? (Integer) value : value instanceof Long ? (Long) value : 0;
    }

    // ---- rules 4, 8, 11, 12 and 13: calls

    private Element caller() {
        for (TreePath at = getCurrentPath(); at != null; at = at.getParentPath()) {
            if (at.getLeaf() instanceof MethodTree) {
                return trees.getElement(at);
            }
        }
        return null;
    }

    private void called(ExecutableElement callee, String library) {
        Element caller = caller();
        boolean isOwn = isOwn(callee);
        if (caller != null) {
            calls.add(caller, isOwn ? callee.getEnclosingElement() + "." + callee : library);
            return;
        }
        // What stands at a field is done by each constructor of its class.
        TreePath at = getCurrentPath();
        while (!(at.getLeaf() instanceof ClassTree)) {
            at = at.getParentPath();
        }
        for (Element member : trees.getElement(at).getEnclosedElements()) {
            if (member.getKind() == ElementKind.CONSTRUCTOR) {
                calls.add(member, isOwn ? callee.getEnclosingElement() + "." + callee : library);
            }
        }
    }

    @Override
    public Void visitMethodInvocation(MethodInvocationTree tree, Void nothing) {
        ExecutableElement callee = (ExecutableElement) element();
        if (callee.getKind() == ElementKind.CONSTRUCTOR) {
            // The super() that the compiler puts in.
            return super.visitMethodInvocation(tree, nothing);
        }
        String name = callee.getEnclosingElement().getSimpleName() + "." + callee.getSimpleName();
        boolean isNumbers = Set.of("Integer", "Long", "Math").contains(callee.getEnclosingElement().getSimpleName().toString())
            && callee.getModifiers().contains(Modifier.STATIC) && !name.endsWith("Exact");
        holds("the library call " + name, isOwn(callee) || LIBRARY.contains(name) || isNumbers);
        called(callee, name);
        return super.visitMethodInvocation(tree, nothing);
    }

    @Override
    public Void visitNewClass(NewClassTree tree, Void nothing) {
        ExecutableElement made = (ExecutableElement) element();
        Element type = made.getEnclosingElement();
        boolean isThrown = getCurrentPath().getParentPath().getLeaf() instanceof ThrowTree;
        holds("no class without a name", tree.getClassBody() == null);
        holds("an object of " + type, isThrown || isOwn(type) || LISTS.contains(nameOf(type)) || TYPES.contains(nameOf(type)));
        if (!isThrown) {
            String name = "new " + type.getSimpleName();
            called(made, name);
        }
        return super.visitNewClass(tree, nothing);
    }

    // ---- rule 6: exceptions

    private static boolean isAllowedToThrow(TypeMirror type) {
        return type.getKind() == TypeKind.DECLARED
            && EXCEPTIONS.contains(((DeclaredType) type).asElement().getSimpleName().toString());
    }

    @Override
    public Void visitThrow(ThrowTree tree, Void nothing) {
        Element caller = caller();
        holds("no throw in a constructor", caller != null && caller.getKind() != ElementKind.CONSTRUCTOR);
        boolean isNew = tree.getExpression() instanceof NewClassTree;
        holds("throw new E", isNew && isAllowedToThrow(typeOf(tree.getExpression())));
        if (isNew) {
            for (ExpressionTree text : ((NewClassTree) tree.getExpression()).getArguments()) {
                holds("a written text", text.getKind() == Tree.Kind.STRING_LITERAL);
            }
        }
        return super.visitThrow(tree, nothing);
    }

    @Override
    public Void visitTry(TryTree tree, Void nothing) {
        none("try");
        return super.visitTry(tree, nothing);
    }

    @Override
    public Void visitSynchronized(SynchronizedTree tree, Void nothing) {
        none("synchronized");
        return super.visitSynchronized(tree, nothing);
    }

    @Override
    public Void visitAssert(AssertTree tree, Void nothing) {
        none("assert");
        return super.visitAssert(tree, nothing);
    }

    @Override
    public Void visitInstanceOf(InstanceOfTree tree, Void nothing) {
        none("instanceof");
        return super.visitInstanceOf(tree, nothing);
    }

    @Override
    public Void visitTypeCast(TypeCastTree tree, Void nothing) {
        holds("no cast of a reference", typeOf(tree.getType()).getKind().isPrimitive());
        return super.visitTypeCast(tree, nothing);
    }

    @Override
    public Void visitSwitchExpression(SwitchExpressionTree tree, Void nothing) {
        none("switch that is an expression");
        return super.visitSwitchExpression(tree, nothing);
    }

    // ---- rules 7 and 10: divisors, texts

    @Override
    public Void visitBinary(BinaryTree tree, Void nothing) {
        Tree.Kind kind = tree.getKind();
        if (kind == Tree.Kind.DIVIDE || kind == Tree.Kind.REMAINDER) {
            holds("a divisor is a constant above 0", constantOf(tree.getRightOperand()) > 0);
        }
        boolean isOfText = isText(typeOf(tree.getLeftOperand())) || isText(typeOf(tree.getRightOperand()));
        holds("no text with + , == or !=", !isOfText);
        return super.visitBinary(tree, nothing);
    }

    @Override
    public Void visitCompoundAssignment(CompoundAssignmentTree tree, Void nothing) {
        Tree.Kind kind = tree.getKind();
        if (kind == Tree.Kind.DIVIDE_ASSIGNMENT || kind == Tree.Kind.REMAINDER_ASSIGNMENT) {
            holds("a divisor is a constant above 0", constantOf(tree.getExpression()) > 0);
        }
        holds("no text with +=", !isText(typeOf(tree.getVariable())));
        return super.visitCompoundAssignment(tree, nothing);
    }

    private static boolean isText(TypeMirror type) {
        return type != null && type.getKind() == TypeKind.DECLARED && TYPES.contains(nameOf(((DeclaredType) type).asElement()));
    }

    @Override
    public Void visitLiteral(LiteralTree tree, Void nothing) {
        if (tree.getValue() instanceof String) {
            holds("signs 1 to 127", ((String) tree.getValue()).chars().allMatch(sign -> sign >= 1 && sign <= 127));
        }
        return super.visitLiteral(tree, nothing);
    }

    // ---- rule 9: loops

    @Override
    public Void visitForLoop(ForLoopTree tree, Void nothing) {
        holds("a bound and a step", tree.getCondition() != null && tree.getUpdate().size() == 1);
        holds("a counter", tree.getInitializer().size() == 1);
        return super.visitForLoop(tree, nothing);
    }

    @Override
    public Void visitEnhancedForLoop(EnhancedForLoopTree tree, Void nothing) {
        holds("over an array", typeOf(tree.getExpression()).getKind() == TypeKind.ARRAY);
        return super.visitEnhancedForLoop(tree, nothing);
    }

    @Override
    public Void visitWhileLoop(WhileLoopTree tree, Void nothing) {
        String condition = tree.getCondition().toString();
        holds("a bound in " + condition, condition.contains(">") || condition.contains("<"));
        return super.visitWhileLoop(tree, nothing);
    }

    @Override
    public Void visitDoWhileLoop(DoWhileLoopTree tree, Void nothing) {
        none("do, whose end is seen at its foot alone");
        return super.visitDoWhileLoop(tree, nothing);
    }
}
