import com.sun.source.tree.AssertTree;
import com.sun.source.tree.AssignmentTree;
import com.sun.source.tree.BinaryTree;
import com.sun.source.tree.ClassTree;
import com.sun.source.tree.CompilationUnitTree;
import com.sun.source.tree.CompoundAssignmentTree;
import com.sun.source.tree.DoWhileLoopTree;
import com.sun.source.tree.EnhancedForLoopTree;
import com.sun.source.tree.ExpressionTree;
import com.sun.source.tree.ForLoopTree;
import com.sun.source.tree.IdentifierTree;
import com.sun.source.tree.ImportTree;
import com.sun.source.tree.InstanceOfTree;
import com.sun.source.tree.LambdaExpressionTree;
import com.sun.source.tree.LiteralTree;
import com.sun.source.tree.MemberReferenceTree;
import com.sun.source.tree.MethodInvocationTree;
import com.sun.source.tree.MethodTree;
import com.sun.source.tree.NewArrayTree;
import com.sun.source.tree.NewClassTree;
import com.sun.source.tree.ParenthesizedTree;
import com.sun.source.tree.SwitchTree;
import com.sun.source.tree.SynchronizedTree;
import com.sun.source.tree.ThrowTree;
import com.sun.source.tree.Tree;
import com.sun.source.tree.TryTree;
import com.sun.source.tree.TypeCastTree;
import com.sun.source.tree.UnaryTree;
import com.sun.source.tree.VariableTree;
import com.sun.source.tree.WhileLoopTree;
import com.sun.source.util.JavacTask;
import com.sun.source.util.TreePath;
import com.sun.source.util.TreePathScanner;
import com.sun.source.util.Trees;
import java.io.IOException;
import java.nio.file.Files;
import java.nio.file.Path;
import java.util.ArrayList;
import java.util.HashMap;
import java.util.HashSet;
import java.util.List;
import java.util.Map;
import java.util.Set;
import java.util.TreeSet;
import java.util.regex.Matcher;
import java.util.regex.Pattern;
import javax.lang.model.element.Element;
import javax.lang.model.element.ElementKind;
import javax.lang.model.element.ExecutableElement;
import javax.lang.model.element.Modifier;
import javax.lang.model.element.TypeElement;
import javax.lang.model.type.TypeMirror;
import javax.tools.JavaCompiler;
import javax.tools.StandardJavaFileManager;
import javax.tools.ToolProvider;

/** The rules of LANGUAGE.md that the class's tree shows, and the document's face. */
public final class LanguageTest extends TreePathScanner<Void, Void> {
    private static final Due DUE = new Due("LanguageTest");
    private static final String MAIN = "src/main/java/HotIron.java";
    /** Rule 4; what of the list the class does not use may be added when it does. */
    private static final Set<String> LIBRARY = Set.of("java.lang.String.length", "java.lang.String.charAt",
            "java.lang.Math.max", "java.lang.Math.min", "java.lang.Math.abs", "java.lang.Math.floorDiv",
            "java.lang.Math.floorMod", "java.lang.Long.bitCount", "java.lang.Integer.bitCount", "java.lang.System.arraycopy",
            "java.util.Arrays.fill", "java.util.Arrays.copyOf", "java.util.Arrays.copyOfRange", "java.lang.Object.<init>");
    private static final Set<String> CONSTANTS = Set.of("int", "long", "boolean", "char", "java.lang.String", "int[]", "long[]",
            "char[]", "byte[]");

    private final Trees trees;
    private final CompilationUnitTree unit;
    private final Map<Element, Set<Element>> calls = new HashMap<>();
    private final Set<String> face = new TreeSet<>();
    private final Set<String> hidden = new TreeSet<>();
    private Element method;
    private int classes = 0;

    private LanguageTest(Trees trees, CompilationUnitTree unit) {
        this.trees = trees;
        this.unit = unit;
    }

    public static void main(String[] args) throws IOException {
        JavaCompiler compiler = ToolProvider.getSystemJavaCompiler();
        try (StandardJavaFileManager files = compiler.getStandardFileManager(null, null, null)) {
            JavacTask task = (JavacTask) compiler.getTask(null, files, null, List.of("-proc:none"), null,
                    files.getJavaFileObjects(Path.of(MAIN)));
            CompilationUnitTree unit = task.parse().iterator().next();
            task.analyze();
            LanguageTest test = new LanguageTest(Trees.instance(task), unit);
            test.scan(unit, null);
            test.close();
        }
        DUE.close();
    }

    private void close() throws IOException {
        DUE.is("rule 1: the document's face", face.toString(), documentFace().toString());
        hidden.retainAll(face.stream().map(LanguageTest::nameIn).toList());
        DUE.is("rule 1: private methods of a public one's name", hidden.toString(), "[]");
        DUE.is("rule 11: at most twelve classes, " + classes, classes <= 12 ? 1 : 0, 1);
        for (Element from : calls.keySet()) {
            if (reaches(from, from, new HashSet<>())) {
                rule(8, "a private method that calls itself, not " + from, from.getModifiers().contains(Modifier.PRIVATE));
            }
            int deep = depth(from, new ArrayList<>());
            rule(11, "calls at most eight deep, not " + deep + " from " + from, deep <= 8);
        }
    }

    private static Set<String> documentFace() throws IOException {
        Set<String> due = new TreeSet<>();
        Matcher lines = Pattern.compile("(?m)^    (public [^;]*);$").matcher(Files.readString(Path.of("../shared/DOC.md")));
        while (lines.find()) {
            due.add(lines.group(1));
        }
        return due;
    }

    private static String nameIn(String signature) {
        return signature.replaceAll("\\(.*", "").replaceAll(".* ", "");
    }

    private void rule(int number, String what, boolean holds) {
        DUE.is("rule " + number + ": " + what, holds ? 1 : 0, 1);
    }

    private Element element(Tree tree) {
        return trees.getElement(new TreePath(getCurrentPath(), tree));
    }

    private TypeMirror type(Tree tree) {
        return trees.getTypeMirror(new TreePath(getCurrentPath(), tree));
    }

    private static boolean isOwn(Element element) {
        return element != null && element.toString().startsWith("HotIron");
    }

    @Override
    public Void visitImport(ImportTree tree, Void none) {
        String name = tree.getQualifiedIdentifier().toString();
        rule(4, "import " + name, Set.of("java.util.Arrays", "java.util.ArrayList", "java.util.List").contains(name));
        return null;
    }

    @Override
    public Void visitClass(ClassTree tree, Void none) {
        classes++;
        Tree around = getCurrentPath().getParentPath().getLeaf();
        Set<Modifier> told = tree.getModifiers().getFlags();
        if (around == unit) {
            rule(1, "the class is public and final", told.equals(Set.of(Modifier.PUBLIC, Modifier.FINAL)));
        } else {
            rule(2, "a class inside is no local one: " + tree.getSimpleName(), around instanceof ClassTree);
            rule(2, "a class inside is static: " + tree.getSimpleName(), told.contains(Modifier.STATIC));
            rule(1, "a class inside is not public: " + tree.getSimpleName(),
                    !told.contains(Modifier.PUBLIC) && !told.contains(Modifier.PROTECTED));
        }
        int fields = 0;
        for (Tree member : tree.getMembers()) {
            rule(5, "no initialiser block in " + tree.getSimpleName(), member.getKind() != Tree.Kind.BLOCK);
            boolean isField = member instanceof VariableTree;
            fields += isField && !((VariableTree) member).getModifiers().getFlags().contains(Modifier.STATIC) ? 1 : 0;
        }
        rule(11, "some twenty fields, not " + fields + " of " + tree.getSimpleName(), fields <= 20);
        return super.visitClass(tree, none);
    }

    private boolean isOfFace() {
        return getCurrentPath().getParentPath().getParentPath().getLeaf() == unit;
    }

    @Override
    public Void visitMethod(MethodTree tree, Void none) {
        method = trees.getElement(getCurrentPath());
        calls.putIfAbsent(method, new HashSet<>());
        boolean isPublic = tree.getModifiers().getFlags().contains(Modifier.PUBLIC);
        if (isPublic) {
            face.add(signature(tree));
        } else if (!tree.getName().contentEquals("<init>")) {
            hidden.add(tree.getName().toString());
        }
        if (isOfFace()) {
            rule(1, tree.getName() + " is public or private", isPublic || tree.getModifiers().getFlags().contains(Modifier.PRIVATE));
        } else {
            rule(1, tree.getName() + " of a class inside is not public", !isPublic);
        }
        long from = unit.getLineMap().getLineNumber(trees.getSourcePositions().getStartPosition(unit, tree));
        long to = unit.getLineMap().getLineNumber(trees.getSourcePositions().getEndPosition(unit, tree));
        rule(11, "some sixty lines, not " + (to - from + 1) + " of " + tree.getName(), to - from < 60);
        rule(11, "at most seven parameters of " + tree.getName(), tree.getParameters().size() <= 7);
        super.visitMethod(tree, none);
        method = null;
        return null;
    }

    private String signature(MethodTree tree) {
        List<String> parameters = new ArrayList<>();
        for (VariableTree parameter : tree.getParameters()) {
            parameters.add(parameter.getType() + " " + parameter.getName());
        }
        String head = tree.getReturnType() == null ? "HotIron" : tree.getReturnType() + " " + tree.getName();
        return "public " + head + "(" + String.join(", ", parameters) + ")";
    }

    @Override
    public Void visitVariable(VariableTree tree, Void none) {
        Element element = trees.getElement(getCurrentPath());
        String type = element.asType().toString();
        boolean isNumber = type.matches("(int|long|short|byte|char|boolean|double|float)(\\[\\]){0,2}");
        boolean isPlain = type.matches("(HotIron\\.\\w+)(\\[\\])?|java\\.lang\\.(String|StringBuilder)");
        rule(3, "a type " + type + " of " + tree.getName(), isNumber || isPlain);
        Set<Modifier> told = tree.getModifiers().getFlags();
        if (element.getKind() == ElementKind.FIELD && isOfFace()) {
            boolean isPublic = told.contains(Modifier.PUBLIC);
            rule(1, tree.getName() + " is public or private", isPublic || told.contains(Modifier.PRIVATE));
            if (isPublic) {
                face.add("public static final " + tree.getType() + " " + tree.getName() + " = " + tree.getInitializer());
            }
        }
        if (told.contains(Modifier.STATIC)) {
            rule(5, "static and final: " + tree.getName(), told.contains(Modifier.FINAL) && CONSTANTS.contains(type));
            boolean isWritten = tree.getInitializer() instanceof NewArrayTree a && a.getInitializers() != null;
            rule(5, "an array written out: " + tree.getName(), !type.endsWith("[]") || isWritten);
        }
        return super.visitVariable(tree, none);
    }

    /** Rule 5: a static array is never changed. */
    private void changed(ExpressionTree target) {
        Tree root = target;
        while (root instanceof com.sun.source.tree.ArrayAccessTree access) {
            root = access.getExpression();
        }
        Element element = element(root);
        rule(5, "no change of " + root, element == null || !element.getModifiers().contains(Modifier.STATIC));
    }

    @Override
    public Void visitAssignment(AssignmentTree tree, Void none) {
        changed(tree.getVariable());
        return super.visitAssignment(tree, none);
    }

    @Override
    public Void visitCompoundAssignment(CompoundAssignmentTree tree, Void none) {
        changed(tree.getVariable());
        rule(10, "texts are not joined by +=", !type(tree.getVariable()).toString().equals("java.lang.String"));
        return super.visitCompoundAssignment(tree, none);
    }

    @Override
    public Void visitUnary(UnaryTree tree, Void none) {
        if (tree.getKind().toString().endsWith("CREMENT")) {
            changed(tree.getExpression());
        }
        return super.visitUnary(tree, none);
    }

    @Override
    public Void visitBinary(BinaryTree tree, Void none) {
        String both = type(tree.getLeftOperand()) + " " + type(tree.getRightOperand());
        rule(6, tree.getKind() + " of " + both, !both.contains("String") && !both.contains("Integer"));
        return super.visitBinary(tree, none);
    }

    @Override
    public Void visitMethodInvocation(MethodInvocationTree tree, Void none) {
        ExecutableElement called = (ExecutableElement) element(tree.getMethodSelect());
        Element owner = called.getEnclosingElement();
        if (isOwn(owner)) {
            called(called);
        } else {
            String name = ((TypeElement) owner).getQualifiedName() + "." + called.getSimpleName();
            rule(4, "the library's " + name, LIBRARY.contains(name));
        }
        for (ExpressionTree argument : tree.getArguments()) {
            notItself(argument);
        }
        return super.visitMethodInvocation(tree, none);
    }

    @Override
    public Void visitNewClass(NewClassTree tree, Void none) {
        rule(2, "no anonymous class", tree.getClassBody() == null);
        rule(4, "new " + tree.getIdentifier(), isOwn(element(tree.getIdentifier())));
        called(trees.getElement(getCurrentPath()));
        for (ExpressionTree argument : tree.getArguments()) {
            notItself(argument);
        }
        return super.visitNewClass(tree, none);
    }

    private void called(Element called) {
        if (method != null) {
            calls.get(method).add(called);
        }
    }

    private void notItself(ExpressionTree argument) {
        boolean isThis = argument instanceof IdentifierTree name && name.getName().contentEquals("this");
        boolean making = method != null && method.getKind() == ElementKind.CONSTRUCTOR;
        rule(12, "a constructor does not hand out what it makes", !isThis || !making);
    }

    private boolean reaches(Element from, Element to, Set<Element> seen) {
        for (Element next : calls.getOrDefault(from, Set.of())) {
            if (next.equals(to) || seen.add(next) && reaches(next, to, seen)) {
                return true;
            }
        }
        return false;
    }

    /** How deep calls go from a method; those that stand open already are a recursion, which is not counted. */
    private int depth(Element from, List<Element> open) {
        int deepest = 0;
        open.add(from);
        for (Element next : calls.getOrDefault(from, Set.of())) {
            if (!open.contains(next)) {
                deepest = Math.max(deepest, depth(next, open));
            }
        }
        open.remove(open.size() - 1);
        return deepest + 1;
    }

    private void loop(ExpressionTree condition) {
        Tree inner = condition;
        while (inner instanceof ParenthesizedTree round) {
            inner = round.getExpression();
        }
        rule(9, "a loop has an end", inner != null && !(inner instanceof LiteralTree));
    }

    @Override
    public Void visitForLoop(ForLoopTree tree, Void none) {
        loop(tree.getCondition());
        return super.visitForLoop(tree, none);
    }

    @Override
    public Void visitWhileLoop(WhileLoopTree tree, Void none) {
        loop(tree.getCondition());
        return super.visitWhileLoop(tree, none);
    }

    @Override
    public Void visitDoWhileLoop(DoWhileLoopTree tree, Void none) {
        loop(tree.getCondition());
        return super.visitDoWhileLoop(tree, none);
    }

    @Override
    public Void visitEnhancedForLoop(EnhancedForLoopTree tree, Void none) {
        rule(12, "a loop over a list goes by index", type(tree.getExpression()).toString().endsWith("[]"));
        return super.visitEnhancedForLoop(tree, none);
    }

    @Override
    public Void visitSwitch(SwitchTree tree, Void none) {
        rule(10, "a switch on a number", type(tree.getExpression()).getKind().isPrimitive());
        return super.visitSwitch(tree, none);
    }

    @Override
    public Void visitLiteral(LiteralTree tree, Void none) {
        boolean isPlain = true;
        for (char sign : tree.getValue() instanceof String text ? text.toCharArray() : new char[0]) {
            isPlain &= sign >= 1 && sign <= 127;
        }
        rule(4, "signs of a constant", isPlain);
        return super.visitLiteral(tree, none);
    }

    @Override
    public Void visitTypeCast(TypeCastTree tree, Void none) {
        rule(6, "casts are of numbers", type(tree.getType()).getKind().isPrimitive());
        return super.visitTypeCast(tree, none);
    }

    @Override
    public Void visitThrow(ThrowTree tree, Void none) {
        rule(6, "no throw", false);
        return null;
    }

    @Override
    public Void visitTry(TryTree tree, Void none) {
        rule(6, "no try", false);
        return null;
    }

    @Override
    public Void visitSynchronized(SynchronizedTree tree, Void none) {
        rule(6, "no synchronized", false);
        return null;
    }

    @Override
    public Void visitAssert(AssertTree tree, Void none) {
        rule(6, "no assert", false);
        return null;
    }

    @Override
    public Void visitInstanceOf(InstanceOfTree tree, Void none) {
        rule(6, "instanceof of a class of its own", tree.getType() == null || isOwn(element(tree.getType())));
        return super.visitInstanceOf(tree, none);
    }

    @Override
    public Void visitLambdaExpression(LambdaExpressionTree tree, Void none) {
        rule(2, "no lambda", false);
        return null;
    }

    @Override
    public Void visitMemberReference(MemberReferenceTree tree, Void none) {
        rule(2, "no method reference", false);
        return null;
    }
}
