import com.sun.source.tree.*;
import com.sun.source.util.JavacTask;
import com.sun.source.util.SourcePositions;
import com.sun.source.util.TreePath;
import com.sun.source.util.TreePathScanner;
import com.sun.source.util.Trees;
import java.io.IOException;
import java.nio.file.Files;
import java.nio.file.Path;
import java.util.ArrayList;
import java.util.HashMap;
import java.util.HashSet;
import java.util.List;
import java.util.Map;
import java.util.Set;
import java.util.TreeSet;
import java.util.regex.Matcher;
import java.util.regex.Pattern;
import javax.lang.model.element.Element;
import javax.lang.model.element.ElementKind;
import javax.lang.model.element.ExecutableElement;
import javax.lang.model.element.Modifier;
import javax.lang.model.element.VariableElement;
import javax.lang.model.type.ArrayType;
import javax.lang.model.type.DeclaredType;
import javax.lang.model.type.TypeKind;
import javax.lang.model.type.TypeMirror;
import javax.tools.JavaCompiler;
import javax.tools.StandardJavaFileManager;
import javax.tools.ToolProvider;

/** The rules of LANGUAGE.md by their numbers, as far as the source's tree shows them. */
public final class LanguageTest extends TreePathScanner<Void, Void> {
    private static final String FACE = "KitchenTouch";
    private static final Path DOCUMENT = Path.of("../shared/DOC.md");
    private static final int MOST_CLASSES = 12, MOST_FIELDS = 20, MOST_LINES = 60, MOST_PARAMETERS = 7, MOST_OPEN = 8;
    private static final Set<String> PLAIN = Set.of("int", "long", "short", "byte", "char", "boolean", "double", "float", "void");
    private static final Set<String> IMPORTS = Set.of("java.util.Arrays", "java.util.ArrayList", "java.util.List", "java.util.Iterator");
    private static final Set<String> TEXTS = Set.of("java.lang.String", "java.lang.StringBuilder", "java.lang.Integer");
    private static final Set<String> GENERIC = Set.of("java.util.ArrayList", "java.util.List", "java.util.Iterator", "java.lang.Iterable",
        "java.lang.Comparable");
    private static final Set<Tree.Kind> COUNTING = Set.of(Tree.Kind.PREFIX_INCREMENT, Tree.Kind.PREFIX_DECREMENT,
        Tree.Kind.POSTFIX_INCREMENT, Tree.Kind.POSTFIX_DECREMENT);
    private static final Map<String, String> LIBRARY = Map.of(
        "System", "arraycopy", "Arrays", "copyOf copyOfRange fill",
        "String", "length charAt isEmpty equals indexOf substring toCharArray",
        "StringBuilder", "append charAt setCharAt setLength deleteCharAt reverse length toString",
        "AbstractStringBuilder", "append charAt setCharAt setLength deleteCharAt reverse length",
        "ArrayList", "add get set remove size isEmpty clear", "List", "add get set remove size isEmpty clear of",
        "Iterator", "hasNext next", "Iterable", "iterator", "Comparable", "compareTo");

    private final String source;
    private final CompilationUnitTree unit;
    private final Trees trees;
    private final Set<String> open = new HashSet<>();
    private final Set<String> shut = new HashSet<>();
    private final Map<Element, Set<Element>> calls = new HashMap<>();
    private int classes = 0;
    private int methods = 0;
    private int wrong = 0;

    private LanguageTest(String source, CompilationUnitTree unit, Trees trees) {
        this.source = source;
        this.unit = unit;
        this.trees = trees;
    }

    private void fault(int rule, String what) {
        wrong++;
        System.out.println("LANGUAGE rule " + rule + ": " + what);
    }

    private void fault(int rule, String what, Tree at) {
        fault(rule, what + ", line " + line(trees.getSourcePositions().getStartPosition(unit, at)));
    }

    private long line(long position) {
        return unit.getLineMap().getLineNumber(position);
    }

    private Element element(Tree tree) {
        return trees.getElement(new TreePath(getCurrentPath(), tree));
    }

    private TypeMirror type(Tree tree) {
        return trees.getTypeMirror(new TreePath(getCurrentPath(), tree));
    }

    // ---- rules 1 and 2: the face, and classes inside

    @Override
    public Void visitCompilationUnit(CompilationUnitTree tree, Void none) {
        if (tree.getPackageName() != null) fault(1, "a package");
        if (tree.getTypeDecls().size() != 1) fault(1, "more than one class in the file");
        for (ImportTree i : tree.getImports()) {
            if (!IMPORTS.contains(i.getQualifiedIdentifier().toString())) fault(4, "an import", i);
        }
        return super.visitCompilationUnit(tree, none);
    }

    @Override
    public Void visitClass(ClassTree tree, Void none) {
        classes++;
        Set<Modifier> flags = tree.getModifiers().getFlags();
        boolean outmost = getCurrentPath().getParentPath().getLeaf() == unit;
        if (outmost) {
            if (!tree.getSimpleName().contentEquals(FACE)) fault(1, "the class's name");
            if (!flags.equals(Set.of(Modifier.PUBLIC, Modifier.FINAL))) fault(1, "the class is " + flags);
        } else {
            if (!(getCurrentPath().getParentPath().getLeaf() instanceof ClassTree)) fault(2, "a local or nameless class", tree);
            boolean classOnly = tree.getKind() == Tree.Kind.CLASS;
            if (classOnly && !flags.contains(Modifier.STATIC)) fault(2, "a class inside that is not static", tree);
            if (flags.contains(Modifier.PUBLIC) || flags.contains(Modifier.PROTECTED)) fault(1, "an open class inside", tree);
        }
        int fields = 0;
        for (Tree member : tree.getMembers()) {
            if (member instanceof BlockTree) fault(5, "an initialiser block", member);
            if (member instanceof VariableTree v && !v.getModifiers().getFlags().contains(Modifier.STATIC)) fields++;
            if (outmost) checkMemberOfFace(member);
        }
        if (fields > MOST_FIELDS) fault(11, fields + " fields", tree);
        return super.visitClass(tree, none);
    }

    private void checkMemberOfFace(Tree member) {
        if (member instanceof VariableTree v && !v.getModifiers().getFlags().contains(Modifier.PRIVATE)) {
            fault(1, "a field that is not private", member);
        }
        if (member instanceof MethodTree m && !m.getModifiers().getFlags().contains(Modifier.PRIVATE)
            && !m.getModifiers().getFlags().contains(Modifier.PUBLIC)) {
            fault(1, "a method that is neither public nor private", member);
        }
    }

    @Override
    public Void visitLambdaExpression(LambdaExpressionTree tree, Void none) {
        fault(2, "a lambda", tree);
        return super.visitLambdaExpression(tree, none);
    }

    @Override
    public Void visitMemberReference(MemberReferenceTree tree, Void none) {
        fault(2, "a method reference", tree);
        return super.visitMemberReference(tree, none);
    }

    // ---- rules 3 and 5: types, and static fields

    private static boolean isPlain(TypeMirror type) {
        return PLAIN.contains(type.toString());
    }

    private boolean isOwn(TypeMirror type) {
        return type.getKind() == TypeKind.TYPEVAR || (type instanceof DeclaredType d && trees.getPath(d.asElement()) != null);
    }

    private boolean isGeneric(TypeMirror type) {
        if (!(type instanceof DeclaredType d) || !GENERIC.contains(d.asElement().toString())) return false;
        for (TypeMirror of : d.getTypeArguments()) {
            if (!isOwn(of) && !of.toString().equals("java.lang.Integer")) return false;
        }
        return true;
    }

    private boolean isRow(TypeMirror type) {
        if (!(type instanceof ArrayType a)) return false;
        TypeMirror of = a.getComponentType();
        return isPlain(of) || isOwn(of) || (of instanceof ArrayType inner && isPlain(inner.getComponentType()));
    }

    private boolean isAllowed(TypeMirror type) {
        return isPlain(type) || TEXTS.contains(type.toString()) || isOwn(type) || isGeneric(type) || isRow(type);
    }

    @Override
    public Void visitVariable(VariableTree tree, Void none) {
        TypeMirror type = trees.getTypeMirror(getCurrentPath());
        Element field = trees.getElement(getCurrentPath());
        if (!isAllowed(type)) fault(3, "the type " + type, tree);
        if (field.getModifiers().contains(Modifier.STATIC) && field.getKind() == ElementKind.FIELD) {
            checkStatic(tree, type, field.getModifiers().contains(Modifier.FINAL));
        }
        return super.visitVariable(tree, none);
    }

    private void checkStatic(VariableTree tree, TypeMirror type, boolean isFinal) {
        boolean constant = isPlain(type) || type.toString().equals("java.lang.String");
        boolean written = tree.getInitializer() instanceof NewArrayTree n && n.getInitializers() != null;
        // Rule 12 has these: an enum's values(), kept once.
        boolean values = isRow(type) && tree.getInitializer() instanceof MethodInvocationTree;
        if (!isFinal) fault(5, "a static field that is not final", tree);
        if (!constant && !written && !values) fault(5, "a static field of the type " + type, tree);
    }

    private void checkChanged(ExpressionTree changed) {
        if (changed instanceof ArrayAccessTree row) {
            Element e = element(row.getExpression());
            if (e != null && e.getModifiers().contains(Modifier.STATIC)) fault(5, "a static row is changed", changed);
        }
    }

    @Override
    public Void visitAssignment(AssignmentTree tree, Void none) {
        checkChanged(tree.getVariable());
        return super.visitAssignment(tree, none);
    }

    @Override
    public Void visitCompoundAssignment(CompoundAssignmentTree tree, Void none) {
        checkChanged(tree.getVariable());
        return super.visitCompoundAssignment(tree, none);
    }

    @Override
    public Void visitUnary(UnaryTree tree, Void none) {
        if (COUNTING.contains(tree.getKind())) checkChanged(tree.getExpression());
        return super.visitUnary(tree, none);
    }

    // ---- rules 4 and 12: what is called, what is made

    private Element openMethod() {
        for (TreePath path = getCurrentPath(); path != null; path = path.getParentPath()) {
            if (path.getLeaf() instanceof MethodTree) return trees.getElement(path);
        }
        return null;
    }

    @Override
    public Void visitMethodInvocation(MethodInvocationTree tree, Void none) {
        ExecutableElement called = (ExecutableElement) element(tree.getMethodSelect());
        Element caller = openMethod();
        boolean own = trees.getPath(called.getEnclosingElement()) != null;
        if (called.getKind() == ElementKind.METHOD && !own && !isOfLibrary(called)) {
            fault(4, "the library's " + called.getEnclosingElement() + "." + called.getSimpleName(), tree);
        }
        if (called.getKind() == ElementKind.METHOD && own && caller != null) {
            calls.computeIfAbsent(caller, c -> new HashSet<>()).add(called);
            if (caller.getKind() == ElementKind.CONSTRUCTOR && isOpenToOthers(called)) fault(12, "a constructor calls " + called, tree);
        }
        return super.visitMethodInvocation(tree, none);
    }

    private static boolean isOfLibrary(ExecutableElement called) {
        String of = called.getEnclosingElement().getSimpleName().toString();
        String name = called.getSimpleName().toString();
        if (of.equals("Array")) return name.equals("clone");
        if (Set.of("Integer", "Long", "Math").contains(of)) {
            boolean numbers = !called.getParameters().isEmpty() && called.getModifiers().contains(Modifier.STATIC);
            for (VariableElement p : called.getParameters()) numbers &= p.asType().toString().matches("int|long");
            return numbers && !name.endsWith("Exact");
        }
        return List.of(LIBRARY.getOrDefault(of, "").split(" ")).contains(name);
    }

    private static boolean isOpenToOthers(Element method) {
        Set<Modifier> flags = new HashSet<>(method.getModifiers());
        flags.addAll(method.getEnclosingElement().getModifiers().contains(Modifier.FINAL) ? Set.of(Modifier.FINAL) : Set.of());
        return !flags.contains(Modifier.PRIVATE) && !flags.contains(Modifier.STATIC) && !flags.contains(Modifier.FINAL);
    }

    @Override
    public Void visitNewClass(NewClassTree tree, Void none) {
        TypeMirror made = type(tree);
        if (!isOwn(made) && !isGeneric(made) && !TEXTS.contains(made.toString())) fault(4, "a new one of " + tree.getIdentifier(), tree);
        return super.visitNewClass(tree, none);
    }

    // ---- rule 6: what there is none of

    @Override
    public Void visitThrow(ThrowTree tree, Void none) {
        fault(6, "a throw", tree);
        return super.visitThrow(tree, none);
    }

    @Override
    public Void visitTry(TryTree tree, Void none) {
        fault(6, "a try", tree);
        return super.visitTry(tree, none);
    }

    @Override
    public Void visitSynchronized(SynchronizedTree tree, Void none) {
        fault(6, "a synchronized", tree);
        return super.visitSynchronized(tree, none);
    }

    @Override
    public Void visitAssert(AssertTree tree, Void none) {
        fault(6, "an assert", tree);
        return super.visitAssert(tree, none);
    }

    @Override
    public Void visitTypeCast(TypeCastTree tree, Void none) {
        if (!isPlain(type(tree.getType())) && !isOwn(type(tree.getType()))) fault(6, "a cast of what is not one's own", tree);
        return super.visitTypeCast(tree, none);
    }

    @Override
    public Void visitAnnotation(AnnotationTree tree, Void none) {
        if (!tree.getAnnotationType().toString().equals("Override")) fault(4, "an annotation", tree);
        return super.visitAnnotation(tree, none);
    }

    @Override
    public Void visitBinary(BinaryTree tree, Void none) {
        boolean compares = tree.getKind() == Tree.Kind.EQUAL_TO || tree.getKind() == Tree.Kind.NOT_EQUAL_TO;
        String left = type(tree.getLeftOperand()).toString();
        boolean same = left.equals(type(tree.getRightOperand()).toString());
        if (compares && same && TEXTS.contains(left)) fault(6, "two of " + left + " by " + tree.getKind(), tree);
        if (!isPlain(type(tree))) fault(10, "a text joined by " + tree.getKind(), tree);
        return super.visitBinary(tree, none);
    }

    // ---- rule 9: each loop has an end that its own lines show

    private void checkEnd(Tree loop, ExpressionTree condition) {
        String told = condition == null ? "" : condition.toString();
        if (told.isEmpty() || told.equals("(true)")) fault(9, "a loop without a bound", loop);
    }

    @Override
    public Void visitForLoop(ForLoopTree tree, Void none) {
        checkEnd(tree, tree.getCondition());
        return super.visitForLoop(tree, none);
    }

    @Override
    public Void visitWhileLoop(WhileLoopTree tree, Void none) {
        checkEnd(tree, tree.getCondition());
        return super.visitWhileLoop(tree, none);
    }

    @Override
    public Void visitDoWhileLoop(DoWhileLoopTree tree, Void none) {
        checkEnd(tree, tree.getCondition());
        return super.visitDoWhileLoop(tree, none);
    }

    // ---- rule 11: methods, and how deep calls go

    @Override
    public Void visitMethod(MethodTree tree, Void none) {
        SourcePositions places = trees.getSourcePositions();
        Element method = trees.getElement(getCurrentPath());
        long lines = line(places.getEndPosition(unit, tree)) - line(places.getStartPosition(unit, tree)) + 1;
        if (lines > MOST_LINES) fault(11, method + " has " + lines + " lines");
        if (tree.getParameters().size() > MOST_PARAMETERS) fault(11, method + " has " + tree.getParameters().size() + " parameters");
        methods++;
        if (method.getModifiers().contains(Modifier.PUBLIC)) open.add(tree.getName().toString());
        if (method.getModifiers().contains(Modifier.PRIVATE)) shut.add(tree.getName().toString());
        return super.visitMethod(tree, none);
    }

    private void checkNames() {
        Set<String> both = new TreeSet<>(open);
        both.retainAll(shut);
        both.remove("<init>");
        if (!both.isEmpty()) fault(1, "names of public methods that private ones bear: " + both);
    }

    /** How many calls stand open at most from this one on, each method but once: recursion does not count here. */
    private int openCalls(Element method, List<Element> chain) {
        int most = 0;
        chain.add(method);
        for (Element called : calls.getOrDefault(method, Set.of())) {
            if (!chain.contains(called)) most = Math.max(most, openCalls(called, chain));
        }
        chain.remove(chain.size() - 1);
        return most + 1;
    }

    private void checkDepth() {
        for (Element method : calls.keySet()) {
            int deep = openCalls(method, new ArrayList<>());
            if (deep > MOST_OPEN) fault(11, method + " goes " + deep + " calls deep");
        }
    }

    // ---- the document's face

    private void checkFace(String document) {
        String told = document.substring(document.indexOf("public final class"), document.indexOf("## Terms"));
        Set<String> due = new TreeSet<>();
        Matcher m = Pattern.compile("public (?!final class)[^;]*").matcher(told);
        while (m.find()) due.add(m.group());
        Set<String> got = new TreeSet<>();
        m = Pattern.compile("(?m)^    public ([^{;=]*)").matcher(source);
        while (m.find()) got.add("public " + m.group(1).trim());
        for (String member : due) {
            if (!got.contains(member)) fault(1, "not in the face: " + member);
        }
        for (String member : got) {
            if (!due.contains(member)) fault(1, "not in the document's face: " + member);
        }
    }

    private void checkSigns() {
        for (int i = 0; i < source.length(); i++) {
            char sign = source.charAt(i);
            if (sign > 126 || (sign < ' ' && sign != '\n')) fault(4, "the sign " + (int) sign + ", line " + line(i));
        }
    }

    private void checkAll(String document) {
        scan(unit, null);
        if (classes > MOST_CLASSES) fault(11, classes + " classes");
        if (methods < open.size() || open.isEmpty()) fault(0, "no methods were found to be checked");
        checkNames();
        checkDepth();
        checkFace(document);
        checkSigns();
    }

    public static void main(String[] args) throws IOException {
        Path path = Path.of(args.length > 0 ? args[0] : "src/main/java/" + FACE + ".java");
        JavaCompiler compiler = ToolProvider.getSystemJavaCompiler();
        StandardJavaFileManager files = compiler.getStandardFileManager(null, null, null);
        JavacTask task = (JavacTask) compiler.getTask(null, files, null, List.of("-proc:none"), null, files.getJavaFileObjects(path));
        CompilationUnitTree unit = task.parse().iterator().next();
        task.analyze();
        LanguageTest test = new LanguageTest(Files.readString(path), unit, Trees.instance(task));
        test.checkAll(Files.readString(DOCUMENT));
        System.out.println("LanguageTest: " + test.classes + " classes, " + test.methods + " methods, " + test.wrong + " faults");
        if (test.wrong != 0) System.exit(1);
    }
}
