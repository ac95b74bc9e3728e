import com.sun.source.tree.ArrayAccessTree;
import com.sun.source.tree.AssertTree;
import com.sun.source.tree.AssignmentTree;
import com.sun.source.tree.BinaryTree;
import com.sun.source.tree.BlockTree;
import com.sun.source.tree.ClassTree;
import com.sun.source.tree.CompilationUnitTree;
import com.sun.source.tree.CompoundAssignmentTree;
import com.sun.source.tree.ExpressionTree;
import com.sun.source.tree.IdentifierTree;
import com.sun.source.tree.LambdaExpressionTree;
import com.sun.source.tree.LiteralTree;
import com.sun.source.tree.MemberReferenceTree;
import com.sun.source.tree.MemberSelectTree;
import com.sun.source.tree.MethodInvocationTree;
import com.sun.source.tree.MethodTree;
import com.sun.source.tree.NewClassTree;
import com.sun.source.tree.SynchronizedTree;
import com.sun.source.tree.ThrowTree;
import com.sun.source.tree.Tree;
import com.sun.source.tree.TryTree;
import com.sun.source.tree.UnaryTree;
import com.sun.source.tree.VariableTree;
import com.sun.source.util.TreePath;
import com.sun.source.util.TreePathScanner;
import com.sun.source.util.Trees;
import java.util.ArrayList;
import java.util.HashMap;
import java.util.List;
import java.util.Map;
import java.util.Set;
import javax.lang.model.element.Element;
import javax.lang.model.element.ElementKind;
import javax.lang.model.element.ExecutableElement;
import javax.lang.model.element.Modifier;
import javax.lang.model.element.TypeElement;
import javax.lang.model.element.VariableElement;
import javax.lang.model.type.ArrayType;
import javax.lang.model.type.DeclaredType;
import javax.lang.model.type.TypeKind;
import javax.lang.model.type.TypeMirror;

/** Goes through the program's tree and writes down what breaks a rule of LANGUAGE.md, by the rule's words. */
final class LanguageRules extends TreePathScanner<Void, Void> {
    private static final Set<String> TYPES = Set.of("java.lang.String", "java.lang.StringBuilder", "java.lang.Integer",
        "java.util.ArrayList", "java.util.List", "java.util.Iterator", "java.lang.Iterable", "java.lang.Comparable");

    private static final Set<String> LISTS = Set.of("add", "get", "set", "remove", "size", "isEmpty", "clear", "of");

    private static final Set<String> BUILDERS = Set.of("append", "charAt", "setCharAt", "setLength", "deleteCharAt",
        "reverse", "length", "toString");

    private static final Map<String, Set<String>> LIBRARY = Map.ofEntries(
        Map.entry("java.lang.String", Set.of("length", "charAt", "isEmpty", "equals", "indexOf", "substring", "toCharArray")),
        Map.entry("java.lang.StringBuilder", BUILDERS),
        Map.entry("java.lang.AbstractStringBuilder", BUILDERS),
        Map.entry("java.util.ArrayList", LISTS),
        Map.entry("java.util.List", LISTS),
        Map.entry("java.util.Iterator", Set.of("hasNext", "next")),
        Map.entry("java.lang.Iterable", Set.of("iterator")),
        Map.entry("java.lang.Comparable", Set.of("compareTo")),
        Map.entry("java.lang.Enum", Set.of("ordinal", "compareTo")),
        Map.entry("java.lang.System", Set.of("arraycopy")),
        Map.entry("java.util.Arrays", Set.of("copyOf", "copyOfRange", "fill")));

    // Of these the static functions over int and long, and what boxes and unboxes.
    private static final Set<String> NUMBERS = Set.of("java.lang.Integer", "java.lang.Long", "java.lang.Math");

    private static final Set<String> OF_EACH_OBJECT = Set.of("equals", "hashCode", "toString");
    private static final int MOST_PARAMETERS = 7;

    final CallGraph calls = new CallGraph();
    private final Trees trees;
    private final Map<String, List<String>> breaks = new HashMap<>();

    LanguageRules(Trees trees) {
        this.trees = trees;
    }

    List<String> breaks(String rule) {
        return breaks.getOrDefault(rule, List.of());
    }

    private void note(String rule, Tree tree) {
        long line = getCurrentPath().getCompilationUnit().getLineMap().getLineNumber(
            trees.getSourcePositions().getStartPosition(getCurrentPath().getCompilationUnit(), tree));
        String words = tree.toString().strip().split("\n")[0];
        breaks.computeIfAbsent(rule, r -> new ArrayList<>()).add("'" + words + "' at line " + line);
    }

    private void noteIf(boolean isBroken, String rule, Tree tree) {
        if (isBroken) note(rule, tree);
    }

    private Element element() {
        return trees.getElement(getCurrentPath());
    }

    private Element elementOf(Tree tree) {
        return trees.getElement(new TreePath(getCurrentPath(), tree));
    }

    private TypeMirror typeOf(Tree tree) {
        return trees.getTypeMirror(new TreePath(getCurrentPath(), tree));
    }

    private Tree parent() {
        return getCurrentPath().getParentPath().getLeaf();
    }

    private static String nameOf(TypeMirror type) {
        return type instanceof DeclaredType d ? ((TypeElement) d.asElement()).getQualifiedName().toString() : "";
    }

    private static boolean isOwn(Element element) {
        Element outermost = element;
        while (outermost.getEnclosingElement() != null && outermost.getEnclosingElement().getKind() != ElementKind.PACKAGE) {
            outermost = outermost.getEnclosingElement();
        }
        return outermost.getSimpleName().contentEquals("MudShares");
    }

    private static boolean isOwn(TypeMirror type) {
        return type instanceof DeclaredType d && isOwn(d.asElement());
    }

    /** The method in which this place is, or null. */
    private ExecutableElement method() {
        for (TreePath path = getCurrentPath(); path != null; path = path.getParentPath()) {
            if (path.getLeaf() instanceof MethodTree) return (ExecutableElement) trees.getElement(path);
        }
        return null;
    }

    private boolean isInConstructor() {
        ExecutableElement method = method();
        return method != null && method.getKind() == ElementKind.CONSTRUCTOR;
    }

    // ---- classes

    @Override
    public Void visitCompilationUnit(CompilationUnitTree tree, Void v) {
        String rule = "one file without a package line";
        noteIf(tree.getPackageName() != null || tree.getTypeDecls().size() != 1, rule, tree);
        return super.visitCompilationUnit(tree, v);
    }

    @Override
    public Void visitClass(ClassTree tree, Void v) {
        boolean isOutermost = parent() instanceof CompilationUnitTree;
        boolean isMember = parent() instanceof ClassTree && element().getModifiers().contains(Modifier.STATIC);
        noteIf(!isOutermost && !isMember, "rule 2: classes inside are static, none local or anonymous", tree);
        calls.addClass((TypeElement) element());
        return super.visitClass(tree, v);
    }

    @Override
    public Void visitLambdaExpression(LambdaExpressionTree tree, Void v) {
        note("rule 2: no lambda, no method reference", tree);
        return super.visitLambdaExpression(tree, v);
    }

    @Override
    public Void visitMemberReference(MemberReferenceTree tree, Void v) {
        note("rule 2: no lambda, no method reference", tree);
        return super.visitMemberReference(tree, v);
    }

    @Override
    public Void visitBlock(BlockTree tree, Void v) {
        noteIf(parent() instanceof ClassTree && tree.isStatic(), "rule 5: no static initialiser block", tree);
        return super.visitBlock(tree, v);
    }

    // ---- types

    private static boolean isOfTypes(TypeMirror type) {
        if (type instanceof ArrayType array) {
            TypeMirror of = array.getComponentType();
            return of instanceof ArrayType inner ? inner.getComponentType().getKind().isPrimitive() : isOfTypes(of);
        }
        boolean isObject = type.getKind() == TypeKind.DECLARED;
        return !isObject || isOwn(type) || TYPES.contains(nameOf(type));
    }

    @Override
    public Void visitVariable(VariableTree tree, Void v) {
        VariableElement variable = (VariableElement) element();
        noteIf(!isOfTypes(variable.asType()), "rule 3: types", tree);
        boolean isConstant = variable.getKind() == ElementKind.ENUM_CONSTANT;
        if (variable.getKind() == ElementKind.FIELD) {
            field(tree, variable);
        }
        noteIf(isConstant && tree.getInitializer() instanceof NewClassTree n && n.getClassBody() != null,
            "rule 2: classes inside are static, none local or anonymous", tree);
        return super.visitVariable(tree, v);
    }

    private void field(VariableTree tree, VariableElement variable) {
        TypeMirror type = variable.asType();
        if (variable.getModifiers().contains(Modifier.STATIC)) {
            noteIf(!variable.getModifiers().contains(Modifier.FINAL), "rule 5: static fields are final", tree);
            noteIf(!isConstant(type), "rule 5: constants, and arrays that are never changed", tree);
        } else if (variable.getEnclosingElement().getKind() == ElementKind.ENUM) {
            noteIf(!isKind(type, TypeKind.INT, TypeKind.LONG, TypeKind.BOOLEAN) && !nameOf(type).equals("java.lang.String"),
                "rule 2: an enum's fields are int, long, boolean or String", tree);
        }
    }

    private static boolean isKind(TypeMirror type, TypeKind... kinds) {
        return List.of(kinds).contains(type.getKind());
    }

    // Arrays of an enum's values, and lists of them, are named by rules 4 and 12.
    private static boolean isConstant(TypeMirror type) {
        if (type instanceof ArrayType array) {
            TypeMirror of = array.getComponentType();
            return isKind(of, TypeKind.INT, TypeKind.LONG, TypeKind.CHAR, TypeKind.BYTE) || isEnum(of);
        }
        return isKind(type, TypeKind.INT, TypeKind.LONG, TypeKind.BOOLEAN, TypeKind.CHAR) || isEnum(type)
            || Set.of("java.lang.String", "java.util.List").contains(nameOf(type));
    }

    private static boolean isEnum(TypeMirror type) {
        return type instanceof DeclaredType d && d.asElement().getKind() == ElementKind.ENUM;
    }

    private void change(ExpressionTree target, Tree tree) {
        if (target instanceof ArrayAccessTree access && elementOf(access.getExpression()) instanceof VariableElement array) {
            noteIf(array.getKind() == ElementKind.FIELD && array.getModifiers().contains(Modifier.STATIC),
                "rule 5: constants, and arrays that are never changed", tree);
        }
    }

    @Override
    public Void visitAssignment(AssignmentTree tree, Void v) {
        change(tree.getVariable(), tree);
        return super.visitAssignment(tree, v);
    }

    @Override
    public Void visitUnary(UnaryTree tree, Void v) {
        boolean changes = Set.of(Tree.Kind.PREFIX_INCREMENT, Tree.Kind.PREFIX_DECREMENT, Tree.Kind.POSTFIX_INCREMENT,
            Tree.Kind.POSTFIX_DECREMENT).contains(tree.getKind());
        if (changes) change(tree.getExpression(), tree);
        return super.visitUnary(tree, v);
    }

    @Override
    public Void visitMethod(MethodTree tree, Void v) {
        ExecutableElement method = (ExecutableElement) element();
        noteIf(!isOfTypes(method.getReturnType()), "rule 3: types", tree);
        noteIf(tree.getParameters().size() > MOST_PARAMETERS, "rule 11: at most seven parameters", tree);
        noteIf(OF_EACH_OBJECT.contains(tree.getName().toString()),
            "rule 6: no equals, hashCode or toString of your own objects", tree);
        calls.addMethod(method);
        return super.visitMethod(tree, v);
    }

    // ---- calls

    @Override
    public Void visitMethodInvocation(MethodInvocationTree tree, Void v) {
        if (element() instanceof ExecutableElement called) {
            if (isOwn(called)) {
                ownCall(called, tree);
            } else {
                noteIf(!isOfLibrary(called), "rule 4: the library", tree);
                noteIf(isOfOwnObject(tree, called), "rule 6: no equals, hashCode or toString of your own objects", tree);
            }
        }
        return super.visitMethodInvocation(tree, v);
    }

    private void ownCall(ExecutableElement called, Tree tree) {
        if (method() != null) calls.addCall(method(), called);
        Set<Modifier> modifiers = called.getModifiers();
        boolean isFixed = called.getKind() == ElementKind.CONSTRUCTOR || modifiers.contains(Modifier.PRIVATE)
            || modifiers.contains(Modifier.STATIC) || modifiers.contains(Modifier.FINAL)
            || called.getEnclosingElement().getModifiers().contains(Modifier.FINAL);
        // On another object, whose constructor has ended, anything may be called.
        boolean isOfThis = tree instanceof MethodInvocationTree m && (m.getMethodSelect() instanceof IdentifierTree
            || m.getMethodSelect() instanceof MemberSelectTree s && s.getExpression().toString().equals("this"));
        noteIf(isInConstructor() && isOfThis && !isFixed,
            "rule 12: a constructor calls no method that another class could override", tree);
    }

    private static boolean isOfLibrary(ExecutableElement called) {
        String name = called.getSimpleName().toString();
        // super() of a class that extends nothing, and the copy of an array.
        if (called.getKind() == ElementKind.CONSTRUCTOR || name.equals("clone")) return true;
        String owner = called.getEnclosingElement().toString().replaceAll("<.*", "");
        if (NUMBERS.contains(owner)) {
            boolean overWhole = called.getParameters().stream().allMatch(p -> isKind(p.asType(), TypeKind.INT, TypeKind.LONG));
            boolean isBox = Set.of("valueOf", "intValue", "compareTo").contains(name);
            return isBox || overWhole && !name.endsWith("Exact") && called.getModifiers().contains(Modifier.STATIC);
        }
        return LIBRARY.getOrDefault(owner, Set.of()).contains(name) || OF_EACH_OBJECT.contains(name);
    }

    private boolean isOfOwnObject(MethodInvocationTree tree, ExecutableElement called) {
        if (!OF_EACH_OBJECT.contains(called.getSimpleName().toString())) return false;
        return !(tree.getMethodSelect() instanceof MemberSelectTree s) || isOwn(typeOf(s.getExpression()));
    }

    @Override
    public Void visitNewClass(NewClassTree tree, Void v) {
        if (element() instanceof ExecutableElement made && isOwn(made)) {
            if (method() != null) calls.addCall(method(), made);
        } else {
            String name = nameOf(typeOf(tree));
            noteIf(!Set.of("java.lang.String", "java.lang.StringBuilder", "java.util.ArrayList").contains(name),
                "rule 4: the library", tree);
        }
        return super.visitNewClass(tree, v);
    }

    @Override
    public Void visitIdentifier(IdentifierTree tree, Void v) {
        boolean isAlone = tree.getName().contentEquals("this") && !(parent() instanceof MemberSelectTree)
            && !(parent() instanceof MethodInvocationTree call && call.getMethodSelect() == tree);
        noteIf(isAlone && isInConstructor(),
            "rule 12: a constructor hands out nothing of the object that it makes", tree);
        return super.visitIdentifier(tree, v);
    }

    // ---- words of the language

    private void noteFlow(Tree tree) {
        note("rule 6: no throw, try, catch, synchronized, assert", tree);
    }

    @Override
    public Void visitThrow(ThrowTree tree, Void v) {
        noteFlow(tree);
        return super.visitThrow(tree, v);
    }

    @Override
    public Void visitTry(TryTree tree, Void v) {
        noteFlow(tree);
        return super.visitTry(tree, v);
    }

    @Override
    public Void visitSynchronized(SynchronizedTree tree, Void v) {
        noteFlow(tree);
        return super.visitSynchronized(tree, v);
    }

    @Override
    public Void visitAssert(AssertTree tree, Void v) {
        noteFlow(tree);
        return super.visitAssert(tree, v);
    }

    @Override
    public Void visitLiteral(LiteralTree tree, Void v) {
        boolean isWide = tree.getValue() instanceof String text && text.chars().anyMatch(c -> c < 1 || c > 127);
        noteIf(isWide, "rule 4: constants, whose signs are 1 to 127", tree);
        return super.visitLiteral(tree, v);
    }

    private boolean isText(Tree tree) {
        return nameOf(typeOf(tree)).equals("java.lang.String");
    }

    private boolean isLike(BinaryTree tree, String type) {
        return nameOf(typeOf(tree.getLeftOperand())).equals(type) && nameOf(typeOf(tree.getRightOperand())).equals(type);
    }

    @Override
    public Void visitBinary(BinaryTree tree, Void v) {
        switch (tree.getKind()) {
            case PLUS -> noteIf(isText(tree), "rule 10: joining texts not by +", tree);
            case EQUAL_TO, NOT_EQUAL_TO -> noteIf(isLike(tree, "java.lang.String") || isLike(tree, "java.lang.Integer"),
                "rule 6: never == between two Strings or two Integers", tree);
            default -> { }
        }
        return super.visitBinary(tree, v);
    }

    @Override
    public Void visitCompoundAssignment(CompoundAssignmentTree tree, Void v) {
        change(tree.getVariable(), tree);
        noteIf(isText(tree.getVariable()), "rule 10: joining texts not by +", tree);
        return super.visitCompoundAssignment(tree, v);
    }
}
