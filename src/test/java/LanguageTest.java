import com.sun.source.tree.AssertTree;
import com.sun.source.tree.BlockTree;
import com.sun.source.tree.CatchTree;
import com.sun.source.tree.ClassTree;
import com.sun.source.tree.CompilationUnitTree;
import com.sun.source.tree.DoWhileLoopTree;
import com.sun.source.tree.EnhancedForLoopTree;
import com.sun.source.tree.ForLoopTree;
import com.sun.source.tree.IdentifierTree;
import com.sun.source.tree.LambdaExpressionTree;
import com.sun.source.tree.MemberReferenceTree;
import com.sun.source.tree.MemberSelectTree;
import com.sun.source.tree.MethodInvocationTree;
import com.sun.source.tree.MethodTree;
import com.sun.source.tree.NewArrayTree;
import com.sun.source.tree.NewClassTree;
import com.sun.source.tree.SynchronizedTree;
import com.sun.source.tree.ThrowTree;
import com.sun.source.tree.Tree;
import com.sun.source.tree.TryTree;
import com.sun.source.tree.VariableTree;
import com.sun.source.tree.WhileLoopTree;
import com.sun.source.util.JavacTask;
import com.sun.source.util.SourcePositions;
import com.sun.source.util.TreeScanner;
import com.sun.source.util.Trees;
import java.nio.file.Files;
import java.nio.file.Path;
import java.util.ArrayDeque;
import java.util.Deque;
import java.util.List;
import java.util.Map;
import java.util.Set;
import java.util.TreeMap;
import java.util.TreeSet;
import javax.lang.model.element.Modifier;
import javax.tools.JavaCompiler;
import javax.tools.StandardJavaFileManager;
import javax.tools.ToolProvider;

/**
 * The rules of LANGUAGE.md that the class's syntax tree shows. Where a rule allows what the class does not need
 * (the library, recursion, new in a loop), this refuses it: loosen it with the class.
 */
public final class LanguageTest extends TreeScanner<Void, Void> {
    private static final Path FILE = Path.of("src/main/java/NamedStreams.java");
    private static final Set<String> CONSTANTS = Set.of("int", "long", "boolean", "char", "String", "int[]", "long[]",
        "char[]", "byte[]");

    private final CompilationUnitTree unit;
    private final SourcePositions positions;
    private final Deque<ClassTree> classes = new ArrayDeque<>();
    private final Map<String, Set<String>> calls = new TreeMap<>();
    private final Set<String> classNames = new TreeSet<>();
    private String method = "";
    private int loops = 0;

    private LanguageTest(CompilationUnitTree unit, SourcePositions positions) {
        this.unit = unit;
        this.positions = positions;
    }

    public static void main(String[] args) throws Exception {
        Due.sentence("LANGUAGE.md");
        String text = Files.readString(FILE);
        Due.holds("rule 3: characters 0 to 255 alone", text.chars().allMatch(c -> c <= 255));
        JavaCompiler compiler = ToolProvider.getSystemJavaCompiler();
        try (StandardJavaFileManager files = compiler.getStandardFileManager(null, null, null)) {
            JavacTask task = (JavacTask) compiler.getTask(null, files, null, List.of("--release", "17"), null,
                files.getJavaFileObjects(FILE));
            CompilationUnitTree unit = task.parse().iterator().next();
            LanguageTest test = new LanguageTest(unit, Trees.instance(task).getSourcePositions());
            test.whole();
        }
        Due.end();
    }

    private void whole() {
        Due.holds("no package line", unit.getPackageName() == null);
        Due.holds("rule 4: nothing of the library is needed", unit.getImports().isEmpty());
        Due.is("rule 1: classes of the file", unit.getTypeDecls().size(), 1);
        scan(unit, null);
        Due.holds("rule 11: some twelve classes: " + classNames, classNames.size() <= 12);
        for (String name : calls.keySet()) {
            Due.holds("rules 8 and 11: calls behind " + name + " go at most eight deep", depth(name, 1) <= 8);
        }
    }

    /** How deep calls go behind this one; beyond 20 (a recursion) it is not looked at. */
    private int depth(String name, int above) {
        int deepest = above;
        if (above > 20) {
            return above;
        }
        for (String called : calls.getOrDefault(name, Set.of())) {
            deepest = Math.max(deepest, depth(called, above + 1));
        }
        return deepest;
    }

    private String at(Tree tree) {
        return " in line " + unit.getLineMap().getLineNumber(positions.getStartPosition(unit, tree));
    }

    private void never(String rule, Tree tree) {
        Due.holds(rule + at(tree), false);
    }

    // ---- rules 1, 2, 5, 11

    @Override
    public Void visitClass(ClassTree tree, Void none) {
        Set<Modifier> flags = tree.getModifiers().getFlags();
        boolean inside = !classes.isEmpty();
        Due.holds("rule 2: no local or anonymous class" + at(tree), method.isEmpty());
        if (inside) {
            Due.holds("rule 2: static classes inside" + at(tree), flags.contains(Modifier.STATIC));
            Due.holds("rule 1: classes inside are not public" + at(tree), !flags.contains(Modifier.PUBLIC)
                && !flags.contains(Modifier.PROTECTED));
        }
        classNames.add(tree.getSimpleName().toString());
        classes.push(tree);
        int fields = 0;
        for (Tree member : tree.getMembers()) {
            fields += member instanceof VariableTree field && !isStatic(field) ? 1 : 0;
            Due.holds("rule 5: no initialiser block" + at(member), !(member instanceof BlockTree));
        }
        Due.holds("rule 11: some twenty fields" + at(tree), fields <= 20);
        super.visitClass(tree, none);
        classes.pop();
        return null;
    }

    private static boolean isStatic(VariableTree field) {
        return field.getModifiers().getFlags().contains(Modifier.STATIC);
    }

    @Override
    public Void visitVariable(VariableTree tree, Void none) {
        if (method.isEmpty() && isStatic(tree)) {
            Due.holds("rule 5: static fields are final" + at(tree),
                tree.getModifiers().getFlags().contains(Modifier.FINAL));
            Due.holds("rule 5: static fields are constants" + at(tree), CONSTANTS.contains(tree.getType().toString()));
        }
        return super.visitVariable(tree, none);
    }

    @Override
    public Void visitMethod(MethodTree tree, Void none) {
        String name = tree.getName().toString();
        boolean constructor = name.equals("<init>");
        Set<Modifier> flags = tree.getModifiers().getFlags();
        if (classes.size() == 1) {
            Due.holds("rule 1: " + name + " is public or private", flags.contains(Modifier.PUBLIC)
                || flags.contains(Modifier.PRIVATE));
        }
        Due.holds("rule 1: no two methods are called " + name, constructor || !calls.containsKey(name));
        Due.holds("rule 7: " + name + " throws nothing", tree.getThrows().isEmpty());
        Due.holds("rule 11: parameters of " + name, tree.getParameters().size() <= 7);
        Due.holds("rule 11: lines of " + name, lines(tree) <= 60);
        method = name;
        calls.putIfAbsent(name, new TreeSet<>());
        super.visitMethod(tree, none);
        method = "";
        return null;
    }

    private long lines(Tree tree) {
        return unit.getLineMap().getLineNumber(positions.getEndPosition(unit, tree))
            - unit.getLineMap().getLineNumber(positions.getStartPosition(unit, tree)) + 1;
    }

    // ---- rules 2, 6

    @Override
    public Void visitLambdaExpression(LambdaExpressionTree tree, Void none) {
        never("rule 2: no lambda", tree);
        return null;
    }

    @Override
    public Void visitMemberReference(MemberReferenceTree tree, Void none) {
        never("rule 2: no method reference", tree);
        return null;
    }

    @Override
    public Void visitThrow(ThrowTree tree, Void none) {
        never("rule 6: no throw", tree);
        return null;
    }

    @Override
    public Void visitTry(TryTree tree, Void none) {
        never("rule 6: no try", tree);
        return null;
    }

    @Override
    public Void visitCatch(CatchTree tree, Void none) {
        never("rule 6: no catch", tree);
        return null;
    }

    @Override
    public Void visitSynchronized(SynchronizedTree tree, Void none) {
        never("rule 6: no synchronized", tree);
        return null;
    }

    @Override
    public Void visitAssert(AssertTree tree, Void none) {
        never("rule 6: no assert", tree);
        return null;
    }

    // ---- rules 4, 8, 12

    @Override
    public Void visitIdentifier(IdentifierTree tree, Void none) {
        String name = tree.getName().toString();
        // a name with a great letter first is a class or a constant, which is all great letters
        boolean isClass = Character.isUpperCase(name.charAt(0)) && !name.equals(name.toUpperCase());
        boolean isPackage = name.equals("java") || name.equals("javax");
        Due.holds("rule 4: nothing of the library is needed, so not " + name + at(tree),
            !isPackage && (!isClass || isOwn(name)));
        return super.visitIdentifier(tree, none);
    }

    private boolean isOwn(String name) {
        for (Tree member : ((ClassTree) unit.getTypeDecls().get(0)).getMembers()) {
            if (member instanceof ClassTree own && own.getSimpleName().contentEquals(name)) {
                return true;
            }
        }
        return name.equals("NamedStreams");
    }

    @Override
    public Void visitMethodInvocation(MethodInvocationTree tree, Void none) {
        Tree called = tree.getMethodSelect();
        String name = called instanceof MemberSelectTree select ? select.getIdentifier().toString() : called.toString();
        // javac itself writes the super() of a constructor
        if (!name.equals("super")) {
            calls.computeIfAbsent(method, ignored -> new TreeSet<>()).add(name);
            Due.holds("rule 4: " + name + " is a method of the file" + at(tree), isMethod(name));
        }
        return super.visitMethodInvocation(tree, none);
    }

    private boolean isMethod(String name) {
        boolean[] found = {false};
        new TreeScanner<Void, Void>() {
            @Override
            public Void visitMethod(MethodTree tree, Void none) {
                found[0] |= tree.getName().contentEquals(name);
                return null;
            }
        }.scan(unit, null);
        return found[0];
    }

    @Override
    public Void visitNewClass(NewClassTree tree, Void none) {
        Due.holds("rule 2: no anonymous class" + at(tree), tree.getClassBody() == null);
        Due.holds("rule 12: nothing is made in a loop" + at(tree), loops == 0);
        return super.visitNewClass(tree, none);
    }

    @Override
    public Void visitNewArray(NewArrayTree tree, Void none) {
        Due.holds("rule 12: rows are made with the object" + at(tree), method.isEmpty() && loops == 0);
        return super.visitNewArray(tree, none);
    }

    // ---- rule 9

    @Override
    public Void visitForLoop(ForLoopTree tree, Void none) {
        Due.holds("rule 9: a for has a start, a bound and a step" + at(tree), tree.getInitializer().size() == 1
            && tree.getCondition() != null && tree.getUpdate().size() == 1);
        loops++;
        super.visitForLoop(tree, none);
        loops--;
        return null;
    }

    @Override
    public Void visitEnhancedForLoop(EnhancedForLoopTree tree, Void none) {
        loops++;
        super.visitEnhancedForLoop(tree, none);
        loops--;
        return null;
    }

    @Override
    public Void visitWhileLoop(WhileLoopTree tree, Void none) {
        bounded(tree.getCondition());
        loops++;
        super.visitWhileLoop(tree, none);
        loops--;
        return null;
    }

    @Override
    public Void visitDoWhileLoop(DoWhileLoopTree tree, Void none) {
        bounded(tree.getCondition());
        loops++;
        super.visitDoWhileLoop(tree, none);
        loops--;
        return null;
    }

    private void bounded(Tree condition) {
        Due.holds("rule 9: a counter against a bound" + at(condition), condition.toString().matches(".*\\w+ (<|<=|>|>=) .*"));
    }
}
