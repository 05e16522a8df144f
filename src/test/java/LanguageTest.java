import com.sun.source.tree.ArrayAccessTree;
import com.sun.source.tree.ArrayTypeTree;
import com.sun.source.tree.AssignmentTree;
import com.sun.source.tree.BinaryTree;
import com.sun.source.tree.BlockTree;
import com.sun.source.tree.ClassTree;
import com.sun.source.tree.CompilationUnitTree;
import com.sun.source.tree.CompoundAssignmentTree;
import com.sun.source.tree.ExpressionTree;
import com.sun.source.tree.ForLoopTree;
import com.sun.source.tree.IdentifierTree;
import com.sun.source.tree.MemberSelectTree;
import com.sun.source.tree.MethodInvocationTree;
import com.sun.source.tree.MethodTree;
import com.sun.source.tree.NewArrayTree;
import com.sun.source.tree.NewClassTree;
import com.sun.source.tree.ParenthesizedTree;
import com.sun.source.tree.Tree;
import com.sun.source.tree.TypeCastTree;
import com.sun.source.tree.UnaryTree;
import com.sun.source.tree.VariableTree;
import com.sun.source.tree.WhileLoopTree;
import com.sun.source.util.JavacTask;
import com.sun.source.util.SourcePositions;
import com.sun.source.util.TreePath;
import com.sun.source.util.TreePathScanner;
import com.sun.source.util.Trees;
import java.nio.file.Files;
import java.nio.file.Path;
import java.util.HashMap;
import java.util.HashSet;
import java.util.List;
import java.util.Map;
import java.util.Set;
import java.util.TreeSet;
import javax.lang.model.element.Element;
import javax.lang.model.element.ElementKind;
import javax.lang.model.element.Modifier;
import javax.lang.model.element.TypeElement;
import javax.tools.JavaCompiler;
import javax.tools.StandardJavaFileManager;
import javax.tools.ToolProvider;

/**
 * The rules of LANGUAGE.md that can be looked at in the source, as the compiler reads it. Some are looked at more narrowly than
 * the rule: the program makes objects in constructors alone, has no recursion and no texts.
 */
public final class LanguageTest extends TreePathScanner<Void, Void> {
    private static final Check CHECK = new Check("LanguageTest");
    private static final Path SOURCE = Path.of("src/main/java/LetterRuns.java");

    private static final Set<String> FACE = Set.of("set", "cutoff", "mail", "pass", "batch", "machine", "route", "count",
        "delayed", "queued", "sortedAt", "wouldMiss", "least", "put", "wipe", "fault", "carryOut", "undo", "save", "restore");
    private static final Set<String> LIBRARY = Set.of("java.lang.Math.min", "java.lang.Math.max", "java.lang.System.arraycopy");
    private static final Set<String> PLAIN = Set.of("int", "long", "short", "byte", "char", "boolean", "double", "float", "void",
        "String", "StringBuilder");
    private static final Set<String> CONSTANT = Set.of("int", "long", "boolean", "char", "String", "int[]", "long[]", "char[]",
        "byte[]");

    private static final Set<Tree.Kind> FORBIDDEN = Set.of(Tree.Kind.IMPORT, Tree.Kind.LAMBDA_EXPRESSION,
        Tree.Kind.MEMBER_REFERENCE, Tree.Kind.THROW, Tree.Kind.TRY, Tree.Kind.CATCH, Tree.Kind.SYNCHRONIZED, Tree.Kind.ASSERT,
        Tree.Kind.STRING_LITERAL);

    private final Trees trees;
    private final SourcePositions positions;
    private final CompilationUnitTree unit;
    private final Set<String> classes = new TreeSet<>();
    private final Map<Element, Set<Element>> calls = new HashMap<>();

    private LanguageTest(JavacTask task, CompilationUnitTree unit) {
        this.unit = unit;
        trees = Trees.instance(task);
        positions = trees.getSourcePositions();
    }

    public static void main(String[] args) throws Exception {
        JavaCompiler compiler = ToolProvider.getSystemJavaCompiler();
        try (StandardJavaFileManager files = compiler.getStandardFileManager(null, null, null)) {
            JavacTask task = (JavacTask) compiler.getTask(null, files, null, List.of("--release", "17"), null,
                files.getJavaFileObjects(SOURCE));
            CompilationUnitTree unit = task.parse().iterator().next();
            task.analyze();
            new LanguageTest(task, unit).look();
        }
        CHECK.finish();
    }

    private void look() throws Exception {
        for (Tree tree : unit.getTypeDecls()) {
            nameClasses((ClassTree) tree);
        }
        scan(unit, null);
        rule("no package", unit.getPackageName() == null, unit);
        rule("one public class in the file", unit.getTypeDecls().size() == 1, unit);
        rule("11: at most twelve classes", classes.size() <= 12, unit);
        Set<Element> open = new HashSet<>();
        int deepest = 0;
        for (Element method : calls.keySet()) {
            deepest = Math.max(deepest, depth(method, open));
        }
        CHECK.holds("11: calls go at most eight deep, here " + deepest, deepest > 0 && deepest <= 8);
        for (char sign : Files.readString(SOURCE).toCharArray()) {
            CHECK.holds("3: sign " + (int) sign, sign < 127 && (sign >= 32 || sign == '\n'));
        }
    }

    private void nameClasses(ClassTree tree) {
        classes.add(tree.getSimpleName().toString());
        for (Tree member : tree.getMembers()) {
            if (member instanceof ClassTree) {
                nameClasses((ClassTree) member);
            }
        }
    }

    private void rule(String words, boolean holds, Tree tree) {
        long line = unit.getLineMap().getLineNumber(Math.max(0, positions.getStartPosition(unit, tree)));
        CHECK.holds("line " + line + ": " + words, holds);
    }

    private void forbidden(String words, Tree tree) {
        rule(words, false, tree);
    }

    /** How many calls stand open behind a call of a method; a method that is open already is a recursion. */
    private int depth(Element method, Set<Element> open) {
        boolean recursion = !open.add(method);
        CHECK.holds("8: no recursion of " + method, !recursion);
        if (recursion) {
            return 0;
        }
        int depth = 0;
        for (Element called : calls.getOrDefault(method, Set.of())) {
            depth = Math.max(depth, depth(called, open));
        }
        open.remove(method);
        return depth + 1;
    }

    // ---- classes, fields and methods

    @Override
    public Void visitClass(ClassTree tree, Void none) {
        boolean outer = tree.getSimpleName().contentEquals("LetterRuns");
        Set<Modifier> flags = tree.getModifiers().getFlags();
        rule("2: a class inside is static and not public or protected", outer || flags.contains(Modifier.STATIC)
            && !flags.contains(Modifier.PUBLIC) && !flags.contains(Modifier.PROTECTED), tree);
        rule("2: no local or anonymous class", outer || getCurrentPath().getParentPath().getLeaf() instanceof ClassTree, tree);
        int fields = 0;
        for (Tree member : tree.getMembers()) {
            boolean field = member instanceof VariableTree;
            fields += field && !((VariableTree) member).getModifiers().getFlags().contains(Modifier.STATIC) ? 1 : 0;
            rule("5: no initialiser block", !(member instanceof BlockTree), member);
        }
        rule("11: some twenty fields", fields <= 20, tree);
        return super.visitClass(tree, none);
    }

    @Override
    public Void visitMethod(MethodTree tree, Void none) {
        Element method = trees.getElement(getCurrentPath());
        calls.computeIfAbsent(method, one -> new HashSet<>());
        String name = tree.getName().toString();
        Set<Modifier> flags = tree.getModifiers().getFlags();
        boolean outer = method.getEnclosingElement().getSimpleName().contentEquals("LetterRuns");
        boolean promised = outer && (FACE.contains(name) || method.getKind() == ElementKind.CONSTRUCTOR);
        if (outer) {
            rule("1: " + name + " is public, others private", flags.contains(promised ? Modifier.PUBLIC : Modifier.PRIVATE), tree);
        } else {
            rule("1: " + name + " is not public", !flags.contains(Modifier.PUBLIC) && !flags.contains(Modifier.PROTECTED), tree);
            rule("1: " + name + " does not bear the name of a public method", !FACE.contains(name), tree);
        }
        rule("11: at most seven parameters", tree.getParameters().size() <= 7, tree);
        long first = unit.getLineMap().getLineNumber(positions.getStartPosition(unit, tree));
        long last = unit.getLineMap().getLineNumber(Math.max(0, positions.getEndPosition(unit, tree)));
        rule("11: methods stay short", last - first < 60, tree);
        rule("6: no equals, hashCode or toString", !Set.of("equals", "hashCode", "toString").contains(name), tree);
        type(tree.getReturnType());
        return super.visitMethod(tree, none);
    }

    @Override
    public Void visitVariable(VariableTree tree, Void none) {
        type(tree.getType());
        Set<Modifier> flags = tree.getModifiers().getFlags();
        if (flags.contains(Modifier.STATIC)) {
            rule("5: static fields are final", flags.contains(Modifier.FINAL), tree);
            rule("5: they are constants", CONSTANT.contains(tree.getType().toString()), tree);
            boolean array = tree.getType() instanceof ArrayTypeTree;
            rule("5: arrays are written out", !array || tree.getInitializer() instanceof NewArrayTree
                && ((NewArrayTree) tree.getInitializer()).getInitializers() != null, tree);
        }
        return super.visitVariable(tree, none);
    }

    private void type(Tree tree) {
        if (tree != null) {
            String type = tree.toString();
            boolean own = classes.contains(type.replace("[]", ""));
            boolean numbers = PLAIN.contains(type.replace("[]", "")) && !type.startsWith("String");
            int dimensions = (type.length() - type.replace("[]", "").length()) / 2;
            boolean fits = own ? dimensions < 2 : numbers ? dimensions < 3 : PLAIN.contains(type);
            rule("3: the type " + type, fits, tree);
        }
    }

    // ---- what a method does

    @Override
    public Void visitMethodInvocation(MethodInvocationTree tree, Void none) {
        Element called = trees.getElement(getCurrentPath());
        String of = ((TypeElement) called.getEnclosingElement()).getQualifiedName().toString();
        boolean constructor = called.getKind() == ElementKind.CONSTRUCTOR;
        if (of.startsWith("LetterRuns")) {
            note(called);
        } else if (!constructor) {
            rule("4: the library's " + of + "." + called.getSimpleName(), LIBRARY.contains(of + "." + called.getSimpleName()), tree);
        }
        return super.visitMethodInvocation(tree, none);
    }

    @Override
    public Void visitNewClass(NewClassTree tree, Void none) {
        rule("2: no anonymous class", tree.getClassBody() == null, tree);
        rule("4: new " + tree.getIdentifier(), classes.contains(tree.getIdentifier().toString()), tree);
        rule("12: only constructors make objects", isInConstructor(), tree);
        note(trees.getElement(getCurrentPath()));
        return super.visitNewClass(tree, none);
    }

    @Override
    public Void visitNewArray(NewArrayTree tree, Void none) {
        rule("12: only constructors make arrays", isInConstructor(), tree);
        for (ExpressionTree length : tree.getDimensions()) {
            rule("7: a constant is the length of a new array", length.toString().matches("[A-Z_]+( \\+ 1)?"), tree);
        }
        return super.visitNewArray(tree, none);
    }

    /** Fields are made with their object, as in its constructor. */
    private boolean isInConstructor() {
        Element method = method();
        return method == null || method.getKind() == ElementKind.CONSTRUCTOR;
    }

    private Element method() {
        for (TreePath path = getCurrentPath(); path != null; path = path.getParentPath()) {
            if (path.getLeaf() instanceof MethodTree) {
                return trees.getElement(path);
            }
        }
        return null;
    }

    private void note(Element called) {
        if (method() != null) {
            calls.computeIfAbsent(method(), one -> new HashSet<>()).add(called);
        }
    }

    @Override
    public Void visitMemberSelect(MemberSelectTree tree, Void none) {
        String of = tree.getExpression().toString();
        boolean library = of.matches("[A-Z][A-Za-z]*") && !classes.contains(of) && !of.equals(of.toUpperCase());
        rule("4: the library's " + tree, !library || LIBRARY.contains("java.lang." + tree), tree);
        return super.visitMemberSelect(tree, none);
    }

    @Override
    public Void visitAssignment(AssignmentTree tree, Void none) {
        changes(tree.getVariable(), tree);
        return super.visitAssignment(tree, none);
    }

    @Override
    public Void visitCompoundAssignment(CompoundAssignmentTree tree, Void none) {
        changes(tree.getVariable(), tree);
        divides(tree.getKind(), tree.getExpression(), tree);
        return super.visitCompoundAssignment(tree, none);
    }

    @Override
    public Void visitUnary(UnaryTree tree, Void none) {
        boolean counts = tree.getKind() != Tree.Kind.LOGICAL_COMPLEMENT && tree.getKind() != Tree.Kind.UNARY_MINUS;
        if (counts) {
            changes(tree.getExpression(), tree);
        }
        return super.visitUnary(tree, none);
    }

    private void changes(ExpressionTree variable, Tree tree) {
        if (variable instanceof ArrayAccessTree) {
            ExpressionTree array = ((ArrayAccessTree) variable).getExpression();
            boolean constant = array instanceof IdentifierTree && array.toString().equals(array.toString().toUpperCase());
            rule("5: constant arrays are never changed", !constant, tree);
        }
    }

    @Override
    public Void visitBinary(BinaryTree tree, Void none) {
        divides(tree.getKind(), tree.getRightOperand(), tree);
        return super.visitBinary(tree, none);
    }

    private void divides(Tree.Kind kind, ExpressionTree by, Tree tree) {
        boolean divides = Set.of(Tree.Kind.DIVIDE, Tree.Kind.REMAINDER, Tree.Kind.DIVIDE_ASSIGNMENT,
            Tree.Kind.REMAINDER_ASSIGNMENT).contains(kind);
        rule("7: a divisor is a number of its own", !divides || by.toString().matches("1000|\\(MOST_STATES \\+ 1\\)"), tree);
    }

    @Override
    public Void visitTypeCast(TypeCastTree tree, Void none) {
        rule("6: casts of numbers alone", PLAIN.contains(tree.getType().toString()), tree);
        return super.visitTypeCast(tree, none);
    }

    @Override
    public Void visitForLoop(ForLoopTree tree, Void none) {
        rule("9: a loop counts", tree.getCondition() != null && !tree.getUpdate().isEmpty(), tree);
        return super.visitForLoop(tree, none);
    }

    @Override
    public Void visitWhileLoop(WhileLoopTree tree, Void none) {
        rule("9: a loop has a bound", ((ParenthesizedTree) tree.getCondition()).toString().matches("\\(\\w+ < .*"), tree);
        return super.visitWhileLoop(tree, none);
    }

    @Override
    public Void scan(Tree tree, Void none) {
        if (tree != null) {
            rule("no " + tree.getKind(), !FORBIDDEN.contains(tree.getKind()), tree);
        }
        return super.scan(tree, none);
    }
}
