import com.sun.source.tree.*;
import com.sun.source.util.TreePath;
import com.sun.source.util.TreePathScanner;
import com.sun.source.util.Trees;
import java.util.ArrayList;
import java.util.HashMap;
import java.util.LinkedHashMap;
import java.util.LinkedHashSet;
import java.util.List;
import java.util.Map;
import java.util.Set;
import javax.lang.model.element.Element;
import javax.lang.model.element.ElementKind;
import javax.lang.model.element.ExecutableElement;
import javax.lang.model.element.Modifier;
import javax.lang.model.element.TypeElement;
import javax.lang.model.type.ArrayType;
import javax.lang.model.type.DeclaredType;
import javax.lang.model.type.TypeKind;
import javax.lang.model.type.TypeMirror;

/** Walks the tree of a file and notes what breaks a rule of LANGUAGE.md, and which method calls which. */
final class Rules extends TreePathScanner<Void, Void> {
    private static final Set<String> LIBRARY_TYPES = Set.of("java.lang.String", "java.lang.StringBuilder",
        "java.lang.Integer", "java.util.ArrayList", "java.util.List", "java.lang.Comparable", "java.lang.Iterable",
        "java.util.Iterator");
    private static final Map<String, Set<String>> LIBRARY = Map.of(
        "java.lang.Object", Set.of("<init>", "clone"),
        "java.lang.String", Set.of("<init>", "length", "charAt", "isEmpty", "equals", "indexOf", "substring",
            "toCharArray"),
        "java.lang.StringBuilder", Set.of("<init>", "append", "charAt", "setCharAt", "setLength", "deleteCharAt",
            "reverse", "length", "toString"),
        "java.util.ArrayList", Set.of("<init>", "add", "get", "set", "remove", "size", "isEmpty", "clear"),
        "java.util.List", Set.of("add", "get", "set", "remove", "size", "isEmpty", "clear", "of"),
        "java.lang.System", Set.of("arraycopy"),
        "java.util.Arrays", Set.of("copyOf", "copyOfRange", "fill"));
    private static final Set<String> NUMBERS = Set.of("java.lang.Integer", "java.lang.Long", "java.lang.Math");
    private static final Set<TypeKind> PRIMITIVES = Set.of(TypeKind.INT, TypeKind.LONG, TypeKind.SHORT, TypeKind.BYTE,
        TypeKind.CHAR, TypeKind.BOOLEAN, TypeKind.DOUBLE, TypeKind.FLOAT);

    final List<String> breaches = new ArrayList<>();
    final Map<String, Integer> fieldsOf = new LinkedHashMap<>();
    int methods;

    private final Trees trees;
    private final int mostParameters;
    private final Map<Element, Set<Element>> callees = new LinkedHashMap<>();
    private final List<ExecutableElement> bodies = new ArrayList<>();
    // Caller and callee of each call that may come to another class's method than the one named.
    private final List<Element[]> openCalls = new ArrayList<>();
    private final Map<Element, Integer> depths = new HashMap<>();

    Rules(Trees trees, int mostParameters) {
        this.trees = trees;
        this.mostParameters = mostParameters;
    }

    private void broken(String rule, Tree where) {
        breaches.add(rule + ": " + where.toString().lines().findFirst().orElse(""));
    }

    private Element elementOf(Tree tree) {
        return trees.getElement(new TreePath(getCurrentPath(), tree));
    }

    private TypeMirror typeOf(Tree tree) {
        return trees.getTypeMirror(new TreePath(getCurrentPath(), tree));
    }

    private static String nameOf(Element type) {
        return type instanceof TypeElement one ? one.getQualifiedName().toString() : "";
    }

    private static boolean isOfLibrary(Element type) {
        return nameOf(type).startsWith("java.") || nameOf(type).startsWith("javax.");
    }

    // ---- 1, 2, 5, 6: what may not stand at all

    @Override
    public Void visitCompilationUnit(CompilationUnitTree unit, Void none) {
        if (unit.getPackageName() != null) {
            broken("1 package", unit.getPackageName());
        }
        for (ImportTree one : unit.getImports()) {
            broken("4 library", one);
        }
        return super.visitCompilationUnit(unit, none);
    }

    @Override
    public Void visitClass(ClassTree one, Void none) {
        Element element = trees.getElement(getCurrentPath());
        Tree around = getCurrentPath().getParentPath().getLeaf();
        boolean isOutermost = around instanceof CompilationUnitTree;
        if (!isOutermost && !(around instanceof ClassTree && element.getModifiers().contains(Modifier.STATIC))) {
            broken("2 classes", one);
        }
        if (!isOutermost && (element.getModifiers().contains(Modifier.PUBLIC)
                || element.getModifiers().contains(Modifier.PROTECTED))) {
            broken("1 face", one);
        }
        int fields = 0;
        for (Tree member : one.getMembers()) {
            if (member instanceof VariableTree field && !field.getModifiers().getFlags().contains(Modifier.STATIC)) {
                fields++;
            }
            if (member instanceof BlockTree) {
                broken("5 statics", member);
            }
        }
        fieldsOf.put(nameOf(element), fields);
        if (isOutermost) {
            noNameTwice(element);
        }
        return super.visitClass(one, none);
    }

    /** No private method bears the name of a public one, and no member can be seen but the face and the classes. */
    private void noNameTwice(Element outermost) {
        Set<String> face = new LinkedHashSet<>();
        for (Element member : outermost.getEnclosedElements()) {
            Set<Modifier> how = member.getModifiers();
            if (member.getKind() == ElementKind.METHOD && how.contains(Modifier.PUBLIC)) {
                face.add(member.getSimpleName().toString());
            }
            boolean isType = member.getKind().isClass() || member.getKind().isInterface();
            if (nameOf(outermost).equals("SillHouse") && !isType && !how.contains(Modifier.PUBLIC)
                    && !how.contains(Modifier.PRIVATE)) {
                breaches.add("1 face: " + member);
            }
        }
        seeNames(outermost, face);
    }

    private void seeNames(Element type, Set<String> face) {
        for (Element member : type.getEnclosedElements()) {
            if (member.getKind() == ElementKind.METHOD && !member.getModifiers().contains(Modifier.PUBLIC)
                    && face.contains(member.getSimpleName().toString())) {
                breaches.add("1 names: " + member);
            }
            if (member.getKind().isClass() || member.getKind().isInterface()) {
                seeNames(member, face);
            }
        }
    }

    @Override
    public Void visitLambdaExpression(LambdaExpressionTree one, Void none) {
        broken("2 classes", one);
        return super.visitLambdaExpression(one, none);
    }

    @Override
    public Void visitMemberReference(MemberReferenceTree one, Void none) {
        broken("2 classes", one);
        return super.visitMemberReference(one, none);
    }

    @Override
    public Void visitThrow(ThrowTree one, Void none) {
        broken("6 words", one);
        return super.visitThrow(one, none);
    }

    @Override
    public Void visitTry(TryTree one, Void none) {
        broken("6 words", one);
        return super.visitTry(one, none);
    }

    @Override
    public Void visitSynchronized(SynchronizedTree one, Void none) {
        broken("6 words", one);
        return super.visitSynchronized(one, none);
    }

    @Override
    public Void visitAssert(AssertTree one, Void none) {
        broken("6 words", one);
        return super.visitAssert(one, none);
    }

    /** Rule 4 lists no annotation. */
    @Override
    public Void visitAnnotation(AnnotationTree one, Void none) {
        broken("4 library", one);
        return super.visitAnnotation(one, none);
    }

    // ---- 3, 5: types and fields

    @Override
    public Void visitVariable(VariableTree one, Void none) {
        Element element = trees.getElement(getCurrentPath());
        if (!isAllowed(element.asType())) {
            broken("3 types", one);
        }
        Set<Modifier> how = element.getModifiers();
        if (element.getKind() == ElementKind.FIELD && how.contains(Modifier.STATIC)) {
            boolean isConstant = one.getInitializer() != null
                && (one.getInitializer() instanceof NewArrayTree row ? row.getInitializers() != null
                    : element instanceof javax.lang.model.element.VariableElement v && v.getConstantValue() != null);
            if (!how.contains(Modifier.FINAL) || !isConstant) {
                broken("5 statics", one);
            }
        }
        return super.visitVariable(one, none);
    }

    private static boolean isAllowed(TypeMirror type) {
        if (type instanceof ArrayType row) {
            TypeMirror part = row.getComponentType();
            // Rows of rows are of numbers alone.
            return part instanceof ArrayType inner ? PRIMITIVES.contains(inner.getComponentType().getKind())
                : isAllowed(part);
        }
        if (type instanceof DeclaredType one) {
            return (!isOfLibrary(one.asElement()) || LIBRARY_TYPES.contains(nameOf(one.asElement())))
                && one.getTypeArguments().stream().allMatch(Rules::isAllowed);
        }
        return PRIMITIVES.contains(type.getKind()) || type.getKind() == TypeKind.VOID
            || type.getKind() == TypeKind.TYPEVAR;
    }

    // ---- 6, 10: what is compared, cast, joined

    @Override
    public Void visitBinary(BinaryTree one, Void none) {
        String left = String.valueOf(typeOf(one.getLeftOperand()));
        String right = String.valueOf(typeOf(one.getRightOperand()));
        Set<String> boxed = Set.of("java.lang.String", "java.lang.Integer");
        if ((one.getKind() == Tree.Kind.EQUAL_TO || one.getKind() == Tree.Kind.NOT_EQUAL_TO)
                && boxed.contains(left) && boxed.contains(right)) {
            broken("6 compared", one);
        }
        if (one.getKind() == Tree.Kind.PLUS && (left.equals("java.lang.String") || right.equals("java.lang.String"))) {
            broken("10 joined", one);
        }
        return super.visitBinary(one, none);
    }

    /** A cast of an object is fine behind its test, which no reader of trees can see; so far there is none. */
    @Override
    public Void visitTypeCast(TypeCastTree one, Void none) {
        if (!PRIMITIVES.contains(typeOf(one.getType()).getKind())) {
            broken("6 casts", one);
        }
        return super.visitTypeCast(one, none);
    }

    // ---- 9: loops

    @Override
    public Void visitForLoop(ForLoopTree one, Void none) {
        if (one.getCondition() == null || one.getUpdate().isEmpty()) {
            broken("9 loops", one);
        }
        return super.visitForLoop(one, none);
    }

    /** A counter's end is plain in a for; so far no loop is told otherwise. */
    @Override
    public Void visitWhileLoop(WhileLoopTree one, Void none) {
        broken("9 loops", one);
        return super.visitWhileLoop(one, none);
    }

    @Override
    public Void visitDoWhileLoop(DoWhileLoopTree one, Void none) {
        broken("9 loops", one);
        return super.visitDoWhileLoop(one, none);
    }

    // ---- 4, 8, 11: calls

    @Override
    public Void visitMethod(MethodTree one, Void none) {
        ExecutableElement element = (ExecutableElement) trees.getElement(getCurrentPath());
        methods++;
        bodies.add(element);
        callees.putIfAbsent(element, new LinkedHashSet<>());
        if (!isAllowed(element.getReturnType())) {
            broken("3 types", one);
        }
        if (one.getParameters().size() > mostParameters) {
            broken("11 parameters", one);
        }
        return super.visitMethod(one, none);
    }

    @Override
    public Void visitMethodInvocation(MethodInvocationTree one, Void none) {
        boolean isExact = one.getMethodSelect() instanceof MemberSelectTree select
            && select.getExpression().toString().equals("super");
        called(elementOf(one.getMethodSelect()), isExact, one);
        return super.visitMethodInvocation(one, none);
    }

    @Override
    public Void visitNewClass(NewClassTree one, Void none) {
        called(elementOf(one), true, one);
        return super.visitNewClass(one, none);
    }

    private void called(Element callee, boolean isExact, Tree where) {
        if (!(callee instanceof ExecutableElement)) {
            broken("4 library", where);
            return;
        }
        Element type = callee.getEnclosingElement();
        String name = callee.getSimpleName().toString();
        if (isOfLibrary(type) && !isListed(nameOf(type), name)) {
            broken("4 library", where);
        }
        for (TreePath path = getCurrentPath(); path != null; path = path.getParentPath()) {
            if (path.getLeaf() instanceof MethodTree) {
                Set<Element> to = callees.computeIfAbsent(trees.getElement(path), caller -> new LinkedHashSet<>());
                to.add(callee);
                if (!isExact) {
                    openCalls.add(new Element[] {trees.getElement(path), callee});
                }
                return;
            }
        }
    }

    private static boolean isListed(String type, String name) {
        return LIBRARY.getOrDefault(type, Set.of()).contains(name) || NUMBERS.contains(type) && !name.endsWith("Exact");
    }

    // ---- 8, 11: how calls stand one in another

    /** A call may come to any method of that name and as many parameters, of a class that extends the one named. */
    private void addOverriders() {
        for (Element[] call : openCalls) {
            for (ExecutableElement body : bodies) {
                ExecutableElement named = (ExecutableElement) call[1];
                if (body.getKind() == ElementKind.METHOD && body.getSimpleName().equals(named.getSimpleName())
                        && body.getParameters().size() == named.getParameters().size()
                        && isBelow(body.getEnclosingElement(), named.getEnclosingElement())) {
                    callees.get(call[0]).add(body);
                }
            }
        }
    }

    private static boolean isBelow(Element type, Element above) {
        if (!(type instanceof TypeElement one)) {
            return false;
        }
        List<TypeMirror> all = new ArrayList<>(one.getInterfaces());
        all.add(one.getSuperclass());
        return all.stream().anyMatch(up -> up instanceof DeclaredType named
            && (named.asElement().equals(above) || isBelow(named.asElement(), above)));
    }

    /** There is none so far; so rule 8 need not be looked at further. */
    void seeRecursion() {
        addOverriders();
        for (Element method : callees.keySet()) {
            Set<Element> met = new LinkedHashSet<>(callees.get(method));
            List<Element> open = new ArrayList<>(met);
            for (int k = 0; k < open.size(); k++) {
                for (Element next : callees.getOrDefault(open.get(k), Set.of())) {
                    if (met.add(next)) {
                        open.add(next);
                    }
                }
            }
            if (met.contains(method)) {
                breaches.add("8 recursion: " + method);
            }
        }
    }

    int calls() {
        return callees.values().stream().mapToInt(Set::size).sum();
    }

    /** How many calls stand open at most, the first one counted. */
    int deepest() {
        return callees.keySet().stream().mapToInt(method -> depth(method, 0)).max().orElse(0);
    }

    private int depth(Element method, int above) {
        Integer known = depths.get(method);
        // What recursion there is has been told apart; it only must not go on for ever here.
        if (known != null || above > 100) {
            return known == null ? 0 : known;
        }
        int below = 0;
        for (Element next : callees.getOrDefault(method, Set.of())) {
            below = Math.max(below, depth(next, above + 1));
        }
        depths.put(method, below + 1);
        return below + 1;
    }
}
