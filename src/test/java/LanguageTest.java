import com.sun.source.tree.AssertTree;
import com.sun.source.tree.BinaryTree;
import com.sun.source.tree.BlockTree;
import com.sun.source.tree.ClassTree;
import com.sun.source.tree.CompilationUnitTree;
import com.sun.source.tree.DoWhileLoopTree;
import com.sun.source.tree.EnhancedForLoopTree;
import com.sun.source.tree.ForLoopTree;
import com.sun.source.tree.IdentifierTree;
import com.sun.source.tree.ImportTree;
import com.sun.source.tree.LambdaExpressionTree;
import com.sun.source.tree.LiteralTree;
import com.sun.source.tree.MemberReferenceTree;
import com.sun.source.tree.MemberSelectTree;
import com.sun.source.tree.MethodInvocationTree;
import com.sun.source.tree.MethodTree;
import com.sun.source.tree.NewArrayTree;
import com.sun.source.tree.NewClassTree;
import com.sun.source.tree.SynchronizedTree;
import com.sun.source.tree.ThrowTree;
import com.sun.source.tree.Tree;
import com.sun.source.tree.TryTree;
import com.sun.source.tree.TypeCastTree;
import com.sun.source.tree.VariableTree;
import com.sun.source.tree.WhileLoopTree;
import com.sun.source.util.JavacTask;
import com.sun.source.util.TreePath;
import com.sun.source.util.TreePathScanner;
import com.sun.source.util.Trees;
import java.io.IOException;
import java.nio.file.Files;
import java.nio.file.Path;
import java.util.ArrayDeque;
import java.util.Deque;
import java.util.HashSet;
import java.util.LinkedHashMap;
import java.util.LinkedHashSet;
import java.util.List;
import java.util.Map;
import java.util.Set;
import javax.lang.model.element.Element;
import javax.lang.model.element.ElementKind;
import javax.lang.model.element.Modifier;
import javax.lang.model.element.TypeElement;
import javax.lang.model.type.ArrayType;
import javax.lang.model.type.TypeKind;
import javax.lang.model.type.TypeMirror;
import javax.tools.JavaCompiler;
import javax.tools.StandardJavaFileManager;
import javax.tools.ToolProvider;

/**
 * Reads the class with the compiler and holds it to LANGUAGE.md, rule by rule, as narrowly as the class needs: what the
 * rules allow and the class does without (try, casts among classes, lists ..) is refused here, too, till it is needed.
 */
public final class LanguageTest extends TreePathScanner<Void, Void> {
    private static final Path FILE = Path.of("src/main/java/SummerPictures.java");
    private static final Set<String> LIBRARY = Set.of("java.lang.String.length", "java.lang.String.charAt",
            "java.lang.Integer.bitCount", "java.lang.Math.max", "java.lang.Math.min", "java.lang.System.arraycopy");
    private static final Set<String> LIBRARY_CLASSES = Set.of("String", "Integer", "Math", "System");
    private static final Set<String> EXCEPTIONS = Set.of("IllegalArgumentException", "NoSuchElementException");
    private static final Set<TypeKind> NUMBERS = Set.of(TypeKind.INT, TypeKind.LONG, TypeKind.BYTE, TypeKind.CHAR,
            TypeKind.BOOLEAN);
    private static final int MOST_CLASSES = 12;
    private static final int MOST_FIELDS = 20;
    private static final int MOST_PARAMETERS = 7;
    private static final int MOST_LINES = 60;
    private static final int DEEPEST = 8;

    private final Trees trees;
    private final CompilationUnitTree unit;
    private final Set<String> faceNames = new HashSet<>();
    private final Map<String, Set<String>> calls = new LinkedHashMap<>();
    private final Map<String, Set<Modifier>> modifiers = new LinkedHashMap<>();
    private final Deque<String> methods = new ArrayDeque<>();
    private int loops;
    private int classes;
    private int throwsSeen;
    private int wrong;

    private LanguageTest(Trees trees, CompilationUnitTree unit) {
        this.trees = trees;
        this.unit = unit;
    }

    public static void main(String[] args) throws IOException {
        JavaCompiler compiler = ToolProvider.getSystemJavaCompiler();
        try (StandardJavaFileManager files = compiler.getStandardFileManager(null, null, null)) {
            JavacTask task = (JavacTask) compiler.getTask(null, files, null, List.of("-proc:none"), null,
                    files.getJavaFileObjects(FILE));
            CompilationUnitTree unit = task.parse().iterator().next();
            task.analyze();
            LanguageTest test = new LanguageTest(Trees.instance(task), unit);
            test.holdAll();
            System.out.println("LanguageTest: " + (test.wrong == 0 ? "all as due" : test.wrong + " wrong"));
            if (test.wrong != 0) {
                System.exit(1);
            }
        }
    }

    private void holdAll() throws IOException {
        demand(Files.readString(FILE).chars().allMatch(c -> c < 127), unit, "3: signs beyond 127");
        demand(unit.getPackageName() == null && unit.getTypeDecls().size() == 1, unit, "1: one class, no package");
        ClassTree face = (ClassTree) unit.getTypeDecls().get(0);
        for (Tree member : face.getMembers()) {
            if (member instanceof MethodTree m && m.getModifiers().getFlags().contains(Modifier.PUBLIC)) {
                faceNames.add(m.getName().toString());
            }
        }
        scan(unit, null);
        demand(classes <= MOST_CLASSES, unit, "11: " + classes + " classes");
        // A walk that found none of these would find nothing wrong, either.
        boolean isWalked = classes > 1 && calls.size() > faceNames.size() && throwsSeen > 0;
        demand(isWalked, unit, "the file was not walked through");
        holdDepths();
    }

    private void demand(boolean good, Tree at, String what) {
        if (!good) {
            wrong++;
            long place = trees.getSourcePositions().getStartPosition(unit, at);
            System.out.println("line " + unit.getLineMap().getLineNumber(Math.max(0, place)) + ": rule " + what);
        }
    }

    private Element element(Tree tree) {
        return trees.getElement(TreePath.getPath(unit, tree));
    }

    private static boolean isOwn(Element e) {
        String owner = outermost(e).getSimpleName().toString();
        return owner.equals("SummerPictures");
    }

    private static Element outermost(Element e) {
        Element at = e;
        while (at.getEnclosingElement() != null && at.getEnclosingElement().getKind() != ElementKind.PACKAGE) {
            at = at.getEnclosingElement();
        }
        return at;
    }

    // ---- rules 1, 2, 11: classes and their members ----

    @Override
    public Void visitImport(ImportTree tree, Void none) {
        demand(tree.getQualifiedIdentifier().toString().equals("java.util.NoSuchElementException"), tree, "4: " + tree);
        return null;
    }

    @Override
    public Void visitClass(ClassTree tree, Void none) {
        classes++;
        Set<Modifier> flags = tree.getModifiers().getFlags();
        boolean isFace = getCurrentPath().getParentPath().getLeaf() == unit;
        demand(tree.getKind() == Tree.Kind.CLASS, tree, "2: no plain class");
        demand(isFace ? flags.equals(Set.of(Modifier.PUBLIC, Modifier.FINAL))
                : flags.equals(Set.of(Modifier.PRIVATE, Modifier.STATIC, Modifier.FINAL)), tree, "2: class " + flags);
        int fields = 0;
        for (Tree member : tree.getMembers()) {
            if (member instanceof VariableTree field) {
                fields += field.getModifiers().getFlags().contains(Modifier.STATIC) ? 0 : 1;
                holdField(field);
            }
            demand(!(member instanceof BlockTree), member, "5: an initialiser block");
        }
        demand(fields <= MOST_FIELDS, tree, "11: " + fields + " fields");
        return super.visitClass(tree, none);
    }

    private void holdField(VariableTree field) {
        Set<Modifier> flags = field.getModifiers().getFlags();
        boolean isNone = field.getName().contentEquals("NONE");
        demand(isNone ? flags.contains(Modifier.PUBLIC) : flags.contains(Modifier.PRIVATE), field, "1: it can be seen");
        if (flags.contains(Modifier.STATIC)) {
            TypeKind kind = element(field).asType().getKind();
            demand(flags.contains(Modifier.FINAL), field, "5: static and not final");
            demand(kind == TypeKind.INT || kind == TypeKind.LONG, field, "5: no constant");
        }
    }

    @Override
    public Void visitMethod(MethodTree tree, Void none) {
        Element method = element(tree);
        String name = nameOf(method);
        boolean isFace = tree.getModifiers().getFlags().contains(Modifier.PUBLIC);
        boolean isMade = method.getKind() == ElementKind.CONSTRUCTOR;
        boolean isFaceName = faceNames.contains(tree.getName().toString());
        demand(isFace || isMade || !isFaceName, tree, "1: " + name + " is of the face");
        demand(isFace || tree.getParameters().size() <= MOST_PARAMETERS, tree, "11: parameters of " + name);
        demand(isMade || !calls.containsKey(name), tree, "this test takes " + name + " for one method");
        demand(linesOf(tree) <= MOST_LINES, tree, "11: " + name + " has " + linesOf(tree) + " lines");
        calls.putIfAbsent(name, new LinkedHashSet<>());
        modifiers.put(name, tree.getModifiers().getFlags());
        methods.push(name);
        super.visitMethod(tree, none);
        methods.pop();
        return null;
    }

    private long linesOf(Tree tree) {
        long from = trees.getSourcePositions().getStartPosition(unit, tree);
        long to = trees.getSourcePositions().getEndPosition(unit, tree);
        return from < 0 || to < 0 ? 0 : unit.getLineMap().getLineNumber(to) - unit.getLineMap().getLineNumber(from) + 1;
    }

    private static String nameOf(Element method) {
        return method.getEnclosingElement().getSimpleName() + "." + method.getSimpleName();
    }

    // ---- rules 3, 4: types and the library ----

    @Override
    public Void visitVariable(VariableTree tree, Void none) {
        TypeMirror type = element(tree).asType();
        demand(isAllowed(type), tree, "3: " + type);
        return super.visitVariable(tree, none);
    }

    private static boolean isAllowed(TypeMirror type) {
        if (type instanceof ArrayType array) {
            TypeMirror inside = array.getComponentType();
            return inside.getKind() != TypeKind.ARRAY && !isText(inside) && isAllowed(inside);
        }
        return NUMBERS.contains(type.getKind()) || isText(type) || type.toString().startsWith("SummerPictures");
    }

    private static boolean isText(TypeMirror type) {
        return type.toString().equals("java.lang.String");
    }

    @Override
    public Void visitMethodInvocation(MethodInvocationTree tree, Void none) {
        Element method = element(tree.getMethodSelect());
        String name = nameOf(method);
        if (!method.getSimpleName().contentEquals("<init>")) {
            boolean isLibrary = LIBRARY.contains(outermost(method) + "." + method.getSimpleName());
            demand(isOwn(method) || isLibrary, tree, "4: " + name);
            if (isOwn(method) && !methods.isEmpty()) {
                calls.get(methods.peek()).add(name);
            }
        }
        return super.visitMethodInvocation(tree, none);
    }

    @Override
    public Void visitMemberSelect(MemberSelectTree tree, Void none) {
        Element e = element(tree);
        boolean isArrayLength = tree.getIdentifier().contentEquals("length") && !(e instanceof TypeElement);
        if (e != null && e.getKind() == ElementKind.FIELD && !isArrayLength) {
            demand(isOwn(e), tree, "4: " + tree);
        }
        return super.visitMemberSelect(tree, none);
    }

    @Override
    public Void visitIdentifier(IdentifierTree tree, Void none) {
        if (element(tree) instanceof TypeElement type && !isOwn(type)) {
            String name = type.getSimpleName().toString();
            demand(EXCEPTIONS.contains(name) || LIBRARY_CLASSES.contains(name), tree, "4: " + name);
        }
        return super.visitIdentifier(tree, none);
    }

    @Override
    public Void visitTypeCast(TypeCastTree tree, Void none) {
        demand(tree.getType().toString().equals("byte"), tree, "6: a cast to " + tree.getType());
        return super.visitTypeCast(tree, none);
    }

    @Override
    public Void visitBinary(BinaryTree tree, Void none) {
        TypeMirror type = trees.getTypeMirror(getCurrentPath());
        demand(!isText(type), tree, "10: texts joined by +");
        for (Tree side : List.of(tree.getLeftOperand(), tree.getRightOperand())) {
            TypeMirror t = trees.getTypeMirror(TreePath.getPath(unit, side));
            demand(!t.toString().startsWith("java.lang."), tree, "6: " + tree);
        }
        return super.visitBinary(tree, none);
    }

    // ---- rules 2, 6: what may not stand there ----

    @Override
    public Void visitThrow(ThrowTree tree, Void none) {
        throwsSeen++;
        boolean isGood = tree.getExpression() instanceof NewClassTree made
                && EXCEPTIONS.contains(made.getIdentifier().toString())
                && made.getArguments().stream().allMatch(a -> a instanceof LiteralTree);
        demand(isGood, tree, "6: " + tree);
        demand(!methods.isEmpty() && !methods.peek().endsWith("<init>"), tree, "6: a throw in a constructor");
        return super.visitThrow(tree, none);
    }

    @Override
    public Void visitTry(TryTree tree, Void none) {
        demand(false, tree, "6: try");
        return null;
    }

    @Override
    public Void visitAssert(AssertTree tree, Void none) {
        demand(false, tree, "6: assert");
        return null;
    }

    @Override
    public Void visitSynchronized(SynchronizedTree tree, Void none) {
        demand(false, tree, "6: synchronized");
        return null;
    }

    @Override
    public Void visitLambdaExpression(LambdaExpressionTree tree, Void none) {
        demand(false, tree, "2: a lambda");
        return null;
    }

    @Override
    public Void visitMemberReference(MemberReferenceTree tree, Void none) {
        demand(false, tree, "2: a method reference");
        return null;
    }

    // ---- rules 9, 12: loops, and what is made in them ----

    @Override
    public Void visitForLoop(ForLoopTree tree, Void none) {
        demand(tree.getCondition() instanceof BinaryTree, tree, "9: no bound");
        loops++;
        super.visitForLoop(tree, none);
        loops--;
        return null;
    }

    @Override
    public Void visitWhileLoop(WhileLoopTree tree, Void none) {
        demand(!tree.getCondition().toString().equals("(true)"), tree, "9: no bound");
        loops++;
        super.visitWhileLoop(tree, none);
        loops--;
        return null;
    }

    @Override
    public Void visitDoWhileLoop(DoWhileLoopTree tree, Void none) {
        loops++;
        super.visitDoWhileLoop(tree, none);
        loops--;
        return null;
    }

    @Override
    public Void visitEnhancedForLoop(EnhancedForLoopTree tree, Void none) {
        loops++;
        super.visitEnhancedForLoop(tree, none);
        loops--;
        return null;
    }

    @Override
    public Void visitNewClass(NewClassTree tree, Void none) {
        demand(loops == 0, tree, "12: an object made in a loop");
        demand(tree.getClassBody() == null, tree, "2: a class without a name");
        return super.visitNewClass(tree, none);
    }

    @Override
    public Void visitNewArray(NewArrayTree tree, Void none) {
        demand(loops == 0 && methods.isEmpty(), tree, "12: a row that is not made with its object");
        return super.visitNewArray(tree, none);
    }

    // ---- rules 8, 11: how calls stand open ----

    private void holdDepths() {
        for (String name : calls.keySet()) {
            Deque<String> open = new ArrayDeque<>();
            holdDepth(name, open);
        }
    }

    /** No row of calls is deeper than the rule has it, even if each call of a recursion is counted once. */
    private void holdDepth(String name, Deque<String> open) {
        if (open.contains(name)) {
            demand(!modifiers.get(name).contains(Modifier.PUBLIC), unit, "8: recursion by " + name);
            return;
        }
        open.addLast(name);
        demand(open.size() <= DEEPEST, unit, "11: calls go as deep as " + open);
        for (String next : calls.getOrDefault(name, Set.of())) {
            holdDepth(next, open);
        }
        open.removeLast();
    }
}
