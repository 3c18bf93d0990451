import com.sun.source.tree.AssertTree;
import com.sun.source.tree.BinaryTree;
import com.sun.source.tree.ClassTree;
import com.sun.source.tree.CompilationUnitTree;
import com.sun.source.tree.CompoundAssignmentTree;
import com.sun.source.tree.DoWhileLoopTree;
import com.sun.source.tree.ForLoopTree;
import com.sun.source.tree.ImportTree;
import com.sun.source.tree.LambdaExpressionTree;
import com.sun.source.tree.MemberReferenceTree;
import com.sun.source.tree.MethodInvocationTree;
import com.sun.source.tree.MethodTree;
import com.sun.source.tree.NewArrayTree;
import com.sun.source.tree.NewClassTree;
import com.sun.source.tree.SynchronizedTree;
import com.sun.source.tree.ThrowTree;
import com.sun.source.tree.Tree;
import com.sun.source.tree.TryTree;
import com.sun.source.tree.TypeCastTree;
import com.sun.source.tree.VariableTree;
import com.sun.source.tree.WhileLoopTree;
import com.sun.source.util.JavacTask;
import com.sun.source.util.TreePath;
import com.sun.source.util.TreePathScanner;
import com.sun.source.util.Trees;
import java.io.IOException;
import java.nio.file.Files;
import java.nio.file.Path;
import java.util.Arrays;
import java.util.List;
import java.util.Map;
import java.util.Set;
import java.util.TreeMap;
import java.util.TreeSet;
import java.util.regex.Pattern;
import javax.lang.model.element.Element;
import javax.lang.model.element.ElementKind;
import javax.lang.model.element.Modifier;
import javax.lang.model.element.NestingKind;
import javax.lang.model.element.TypeElement;
import javax.lang.model.element.VariableElement;
import javax.lang.model.type.ArrayType;
import javax.lang.model.type.TypeKind;
import javax.lang.model.type.TypeMirror;
import javax.tools.JavaCompiler;
import javax.tools.StandardJavaFileManager;
import javax.tools.ToolProvider;

/**
 * The rules of LANGUAGE.md that the text of the class can tell, looked up in the tree that the compiler makes of it.
 * Rule 1 is in FaceTest, 7 and 13 are in AnyCallTest, what 12 says of the room is in RoomTest. Where the class needs
 * less than a rule leaves, the test leaves no more than the class needs. It runs from the project's folder.
 */
public final class LanguageTest extends TreePathScanner<Void, Void> {
    private static final Due due = new Due("LanguageTest");
    private static final Path CLASS = Path.of("src/main/java/ChipTimers.java");
    private static final String OWN = "ChipTimers";
    /** What stands ahead of rule 1. */
    private static final int HEAD = 0;
    private static final int MOST_PARAMETERS = 7;
    private static final int MOST_LINES = 60;
    private static final int MOST_CLASSES = 12;
    private static final int MOST_FIELDS = 20;
    private static final int MOST_DEPTH = 8;
    private static final Set<String> NOT_OF_OBJECTS = Set.of("equals", "hashCode", "toString");

    /** Rule 4: what is taken from the library; nothing here knows a clock, a file or a random source. */
    private static final Set<String> LIBRARY = Set.of("java.lang.Math.min", "java.lang.Integer.bitCount");

    private final CompilationUnitTree unit;
    private final Trees trees;
    private final Map<String, Set<String>> calls = new TreeMap<>();
    private int classes;

    private LanguageTest(CompilationUnitTree unit, Trees trees) {
        this.unit = unit;
        this.trees = trees;
    }

    public static void main(String[] args) throws IOException {
        JavaCompiler compiler = ToolProvider.getSystemJavaCompiler();
        try (StandardJavaFileManager files = compiler.getStandardFileManager(null, null, null)) {
            JavacTask task = (JavacTask) compiler.getTask(null, files, null, List.of("--release", "17", "-proc:none"), null,
                files.getJavaFileObjects(CLASS));
            CompilationUnitTree unit = task.parse().iterator().next();
            task.analyze();
            LanguageTest test = new LanguageTest(unit, Trees.instance(task));
            test.scan(unit, null);
            test.rule(11, "the file has at most " + MOST_CLASSES + " classes", test.classes <= MOST_CLASSES, unit);
            test.callsEnd();
        }
        String source = Files.readString(CLASS);
        due.holds("rule 4: all signs are 1 to 127", source.chars().allMatch(sign -> sign >= 1 && sign <= 127));
        due.holds("rule 4: no sign is put by an escape", !Pattern.compile("\\\\u").matcher(source).find());
        due.end();
    }

    private void rule(int number, String told, boolean so, Tree at) {
        long place = trees.getSourcePositions().getStartPosition(unit, at);
        due.holds("rule " + number + ", line " + unit.getLineMap().getLineNumber(Math.max(place, 0)) + ": " + told, so);
    }

    private Element element(Tree tree) {
        return trees.getElement(new TreePath(getCurrentPath(), tree));
    }

    private TypeMirror type(Tree tree) {
        return trees.getTypeMirror(new TreePath(getCurrentPath(), tree));
    }

    // ---- the file and its classes

    @Override
    public Void visitCompilationUnit(CompilationUnitTree file, Void none) {
        rule(HEAD, "there is no package", file.getPackage() == null, file);
        rule(HEAD, "there is one class outside of all others", file.getTypeDecls().size() == 1, file);
        return super.visitCompilationUnit(file, none);
    }

    @Override
    public Void visitImport(ImportTree line, Void none) {
        rule(4, "nothing is imported", false, line);
        return super.visitImport(line, none);
    }

    @Override
    public Void visitClass(ClassTree tree, Void none) {
        classes++;
        TypeElement own = (TypeElement) trees.getElement(getCurrentPath());
        boolean outer = own.getNestingKind() == NestingKind.TOP_LEVEL;
        rule(2, own + " is no local and no anonymous class", outer || own.getNestingKind() == NestingKind.MEMBER, tree);
        rule(2, own + " is static", outer || own.getModifiers().contains(Modifier.STATIC), tree);
        rule(1, own + " can't be seen from outside", outer || own.getModifiers().contains(Modifier.PRIVATE), tree);
        int fields = 0;
        for (Tree member : tree.getMembers()) {
            rule(5, "no block stands outside of methods", member.getKind() != Tree.Kind.BLOCK, member);
            if (member instanceof VariableTree && !element(member).getModifiers().contains(Modifier.STATIC)) {
                fields++;
            }
        }
        rule(11, own + " has at most " + MOST_FIELDS + " fields", fields <= MOST_FIELDS, tree);
        return super.visitClass(tree, none);
    }

    @Override
    public Void visitVariable(VariableTree tree, Void none) {
        Element own = trees.getElement(getCurrentPath());
        rule(3, own.asType() + " is a type of the language", isOfTheLanguage(own.asType()), tree);
        if (own.getModifiers().contains(Modifier.STATIC)) {
            rule(5, own + " is a constant int", own.getModifiers().contains(Modifier.FINAL)
                && own.asType().getKind() == TypeKind.INT && ((VariableElement) own).getConstantValue() != null, tree);
        }
        return super.visitVariable(tree, none);
    }

    /** Numbers without a point, one's own classes, and arrays of one dimension of both. */
    private static boolean isOfTheLanguage(TypeMirror type) {
        TypeMirror element = type.getKind() == TypeKind.ARRAY ? ((ArrayType) type).getComponentType() : type;
        if (element.getKind() == TypeKind.DECLARED) {
            return element.toString().startsWith(OWN);
        }
        return element.getKind() == TypeKind.VOID
            || element.getKind().isPrimitive() && element.getKind() != TypeKind.DOUBLE && element.getKind() != TypeKind.FLOAT;
    }

    // ---- methods

    @Override
    public Void visitMethod(MethodTree tree, Void none) {
        Element own = trees.getElement(getCurrentPath());
        long from = trees.getSourcePositions().getStartPosition(unit, tree);
        long to = trees.getSourcePositions().getEndPosition(unit, tree);
        if (from >= 0 && to > from) {
            long lines = unit.getLineMap().getLineNumber(to) - unit.getLineMap().getLineNumber(from) + 1;
            rule(11, own + " has at most " + MOST_LINES + " lines", lines <= MOST_LINES, tree);
        }
        rule(11, own + " takes at most " + MOST_PARAMETERS, tree.getParameters().size() <= MOST_PARAMETERS, tree);
        rule(6, own + " declares no exception", tree.getThrows().isEmpty(), tree);
        rule(6, own + " is none of " + NOT_OF_OBJECTS, !NOT_OF_OBJECTS.contains(tree.getName().toString()), tree);
        if (tree.getReturnType() != null) {
            rule(3, tree.getReturnType() + " is a type of the language", isOfTheLanguage(type(tree.getReturnType())), tree);
        }
        calls.computeIfAbsent(nameOf(own), name -> new TreeSet<>());
        return super.visitMethod(tree, none);
    }

    private static String nameOf(Element method) {
        return method.getEnclosingElement() + "." + method;
    }

    /** The method or constructor that the scanner stands in, null where a field is made. */
    private Element method() {
        for (TreePath path = getCurrentPath(); path != null; path = path.getParentPath()) {
            if (path.getLeaf() instanceof MethodTree) {
                return trees.getElement(path);
            }
        }
        return null;
    }

    @Override
    public Void visitMethodInvocation(MethodInvocationTree tree, Void none) {
        Element called = trees.getElement(getCurrentPath());
        boolean own = called.getEnclosingElement().toString().startsWith(OWN);
        boolean ofObject = called.getKind() == ElementKind.CONSTRUCTOR;
        rule(4, nameOf(called) + " is one's own or of the library", own || ofObject
            || LIBRARY.contains(called.getEnclosingElement() + "." + called.getSimpleName()), tree);
        Element by = method();
        if (own && by != null) {
            calls.computeIfAbsent(nameOf(by), name -> new TreeSet<>()).add(nameOf(called));
        }
        rule(12, "no constructor calls a method", ofObject || by == null || by.getKind() != ElementKind.CONSTRUCTOR, tree);
        return super.visitMethodInvocation(tree, none);
    }

    @Override
    public Void visitNewClass(NewClassTree tree, Void none) {
        rule(2, "no class has no name", tree.getClassBody() == null, tree);
        rule(4, "only one's own are made", type(tree.getIdentifier()).toString().startsWith(OWN), tree);
        madeInAConstructor(tree);
        return super.visitNewClass(tree, none);
    }

    @Override
    public Void visitNewArray(NewArrayTree tree, Void none) {
        madeInAConstructor(tree);
        return super.visitNewArray(tree, none);
    }

    private void madeInAConstructor(Tree tree) {
        Element by = method();
        rule(12, "only a new object makes objects", by == null || by.getKind() == ElementKind.CONSTRUCTOR, tree);
    }

    /** Rules 8 and 11: no method comes back to itself, and the calls that stand open at once are few. */
    private void callsEnd() {
        due.holds("calls were found", calls.size() > 40);
        for (String from : calls.keySet()) {
            due.holds("rules 8 and 11: " + from + " is no recursion and goes at most " + MOST_DEPTH + " deep",
                depth(from, 1) <= MOST_DEPTH);
        }
    }

    private int depth(String from, int open) {
        int deepest = open;
        if (open <= MOST_DEPTH) {
            for (String called : calls.getOrDefault(from, Set.of())) {
                deepest = Math.max(deepest, depth(called, open + 1));
            }
        }
        return deepest;
    }

    // ---- what is ruled out

    @Override
    public Void visitLambdaExpression(LambdaExpressionTree tree, Void none) {
        rule(2, "there is no lambda", false, tree);
        return super.visitLambdaExpression(tree, none);
    }

    @Override
    public Void visitMemberReference(MemberReferenceTree tree, Void none) {
        rule(2, "there is no method reference", false, tree);
        return super.visitMemberReference(tree, none);
    }

    @Override
    public Void visitThrow(ThrowTree tree, Void none) {
        rule(6, "there is no throw", false, tree);
        return super.visitThrow(tree, none);
    }

    @Override
    public Void visitTry(TryTree tree, Void none) {
        rule(6, "there is no try", false, tree);
        return super.visitTry(tree, none);
    }

    @Override
    public Void visitSynchronized(SynchronizedTree tree, Void none) {
        rule(6, "there is no synchronized", false, tree);
        return super.visitSynchronized(tree, none);
    }

    @Override
    public Void visitAssert(AssertTree tree, Void none) {
        rule(6, "there is no assert", false, tree);
        return super.visitAssert(tree, none);
    }

    @Override
    public Void visitTypeCast(TypeCastTree tree, Void none) {
        rule(6, "there is no cast", false, tree);
        return super.visitTypeCast(tree, none);
    }

    @Override
    public Void visitBinary(BinaryTree tree, Void none) {
        rule(10, "no texts are joined by +", !type(tree).toString().equals("java.lang.String"), tree);
        if (tree.getKind() == Tree.Kind.EQUAL_TO || tree.getKind() == Tree.Kind.NOT_EQUAL_TO) {
            for (Tree side : Arrays.asList(tree.getLeftOperand(), tree.getRightOperand())) {
                rule(6, "no texts and no Integers are compared by ==", !type(side).toString().startsWith("java.lang."), tree);
            }
        }
        divisorIsNotZero(tree, tree.getKind(), tree.getRightOperand());
        return super.visitBinary(tree, none);
    }

    @Override
    public Void visitCompoundAssignment(CompoundAssignmentTree tree, Void none) {
        rule(10, "no texts are joined by +=", !type(tree).toString().equals("java.lang.String"), tree);
        divisorIsNotZero(tree, tree.getKind(), tree.getExpression());
        return super.visitCompoundAssignment(tree, none);
    }

    /** The divisors that are no constants; each call that sets one of these two refuses what is below 1. */
    private static final Set<String> TESTED_DIVISORS = Set.of("every", "slowClock.period");

    private void divisorIsNotZero(Tree tree, Tree.Kind kind, Tree divisor) {
        boolean divides = Set.of(Tree.Kind.DIVIDE, Tree.Kind.REMAINDER, Tree.Kind.DIVIDE_ASSIGNMENT,
            Tree.Kind.REMAINDER_ASSIGNMENT).contains(kind);
        Element by = element(divisor);
        boolean constant = by instanceof VariableElement field
            && field.getConstantValue() instanceof Integer value && value != 0;
        rule(7, divisor + " is a constant or was tested", !divides || constant
            || TESTED_DIVISORS.contains(divisor.toString()), tree);
    }

    // ---- loops

    @Override
    public Void visitWhileLoop(WhileLoopTree tree, Void none) {
        rule(9, "every loop counts in its own line", false, tree);
        return super.visitWhileLoop(tree, none);
    }

    @Override
    public Void visitDoWhileLoop(DoWhileLoopTree tree, Void none) {
        rule(9, "every loop counts in its own line", false, tree);
        return super.visitDoWhileLoop(tree, none);
    }

    @Override
    public Void visitForLoop(ForLoopTree tree, Void none) {
        String line = tree.getInitializer() + " " + tree.getCondition() + " " + tree.getUpdate();
        Pattern form = Pattern.compile("int (\\w+) = 0 \\1 < (EACH|PAIRS|OUTPUTS|n) \\1\\+\\+;");
        rule(9, "the loop goes from 0 to a bound: " + line, form.matcher(line).matches(), tree);
        String counter = tree.getInitializer().isEmpty() ? "" : ((VariableTree) tree.getInitializer().get(0)).getName()
            .toString();
        Pattern put = Pattern.compile("\\b" + counter + " *([-+*/%&|^]|<<|>>>?)?=[^=]|\\b" + counter + "(\\+\\+|--)|"
            + "(\\+\\+|--)" + counter + "\\b");
        rule(9, "nothing else puts " + counter, !put.matcher(tree.getStatement().toString()).find(), tree);
        return super.visitForLoop(tree, none);
    }
}
