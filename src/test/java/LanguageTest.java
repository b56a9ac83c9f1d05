import com.sun.source.tree.AssertTree;
import com.sun.source.tree.BinaryTree;
import com.sun.source.tree.BlockTree;
import com.sun.source.tree.ClassTree;
import com.sun.source.tree.CompilationUnitTree;
import com.sun.source.tree.CompoundAssignmentTree;
import com.sun.source.tree.DoWhileLoopTree;
import com.sun.source.tree.ExpressionTree;
import com.sun.source.tree.ForLoopTree;
import com.sun.source.tree.ImportTree;
import com.sun.source.tree.InstanceOfTree;
import com.sun.source.tree.LambdaExpressionTree;
import com.sun.source.tree.MemberReferenceTree;
import com.sun.source.tree.MethodInvocationTree;
import com.sun.source.tree.MethodTree;
import com.sun.source.tree.NewArrayTree;
import com.sun.source.tree.NewClassTree;
import com.sun.source.tree.SynchronizedTree;
import com.sun.source.tree.ThrowTree;
import com.sun.source.tree.Tree;
import com.sun.source.tree.TryTree;
import com.sun.source.tree.TypeCastTree;
import com.sun.source.tree.VariableTree;
import com.sun.source.tree.WhileLoopTree;
import com.sun.source.util.JavacTask;
import com.sun.source.util.TreePath;
import com.sun.source.util.TreePathScanner;
import com.sun.source.util.Trees;
import java.io.File;
import java.io.IOException;
import java.nio.charset.StandardCharsets;
import java.nio.file.Files;
import java.util.ArrayList;
import java.util.Arrays;
import java.util.HashMap;
import java.util.HashSet;
import java.util.LinkedHashMap;
import java.util.List;
import java.util.Map;
import java.util.Set;
import java.util.TreeSet;
import javax.lang.model.element.Element;
import javax.lang.model.element.ElementKind;
import javax.lang.model.element.ExecutableElement;
import javax.lang.model.element.Modifier;
import javax.lang.model.element.TypeElement;
import javax.lang.model.type.ArrayType;
import javax.lang.model.type.TypeKind;
import javax.lang.model.type.TypeMirror;
import javax.tools.JavaCompiler;
import javax.tools.StandardJavaFileManager;
import javax.tools.ToolProvider;

/**
 * Holds the class's source against those rules of ../shared/LANGUAGE.md that can be seen in it
 * without running it. A message begins with the rule's number. Narrower than the rules where
 * the class needs no more: doubles, lists, enums and switches on types are not looked for.
 */
public final class LanguageTest {
    private static final int MOST_PARAMETERS = 7;
    private static final int MOST_LINES = 60;
    private static final int DEEPEST = 8;
    private static final int MOST_CLASSES = 12;
    private static final int MOST_FIELDS = 20;

    /** Rule 4, as far as it lets in methods without lists. */
    private static final Map<String, Set<String>> LIBRARY = new HashMap<>();

    static {
        allow("java.lang.String", "length charAt isEmpty equals indexOf substring toCharArray");
        allow("java.lang.StringBuilder", "append charAt setCharAt setLength deleteCharAt reverse length toString");
        allow("java.lang.Math", "max min abs floorDiv floorMod");
        allow("java.lang.Integer", "compare max min bitCount");
        allow("java.lang.Long", "compare max min bitCount");
        allow("java.lang.System", "arraycopy");
        allow("java.util.Arrays", "copyOf copyOfRange fill");
        allow("java.lang.Object", "<init>");
    }

    private static void allow(String type, String methods) {
        LIBRARY.put(type, new HashSet<>(Arrays.asList(methods.split(" "))));
    }

    private final List<String> faults = new ArrayList<>();
    private final Map<String, Set<String>> calls = new LinkedHashMap<>();
    private final Map<String, Integer> seen = new LinkedHashMap<>();
    private final Set<String> publicNames = new TreeSet<>();
    private final Set<String> otherNames = new TreeSet<>();
    /** Where something is made by a call, and not when the object is. */
    private final Set<String> makers = new TreeSet<>();
    private Trees trees;
    private CompilationUnitTree unit;

    private void fault(Tree tree, String rule) {
        long line = unit.getLineMap().getLineNumber(trees.getSourcePositions().getStartPosition(unit, tree));
        faults.add(rule + ", line " + line);
    }

    private void count(String what) {
        seen.merge(what, 1, Integer::sum);
    }

    private final class Scanner extends TreePathScanner<Void, Void> {
        private String method = "";

        @Override
        public Void visitImport(ImportTree tree, Void v) {
            if (!Arrays.asList("java.util.Arrays", "java.util.ArrayList", "java.util.List")
                    .contains(tree.getQualifiedIdentifier().toString())) {
                fault(tree, "4: import " + tree.getQualifiedIdentifier());
            }
            return null;
        }

        @Override
        public Void visitClass(ClassTree tree, Void v) {
            count("classes");
            Set<Modifier> modifiers = tree.getModifiers().getFlags();
            boolean outermost = getCurrentPath().getParentPath().getLeaf() == unit;
            if (outermost && !(modifiers.contains(Modifier.PUBLIC) && modifiers.contains(Modifier.FINAL))) {
                fault(tree, "1: the class is public and final");
            }
            if (!outermost && getCurrentPath().getParentPath().getLeaf().getKind() != Tree.Kind.CLASS) {
                fault(tree, "2: a local or anonymous class");
            }
            if (!outermost && !modifiers.contains(Modifier.STATIC)) {
                fault(tree, "2: a class inside that is not static");
            }
            if (!outermost && (modifiers.contains(Modifier.PUBLIC) || modifiers.contains(Modifier.PROTECTED))) {
                fault(tree, "1: a class inside is private or package-visible");
            }
            int fields = 0;
            for (Tree member : tree.getMembers()) {
                if (member instanceof BlockTree) {
                    fault(member, "5: an initialiser block");
                }
                fields += isField(member) ? 1 : 0;
            }
            if (fields > MOST_FIELDS) {
                fault(tree, "11: " + fields + " fields in " + tree.getSimpleName());
            }
            return super.visitClass(tree, v);
        }

        private boolean isField(Tree member) {
            return member instanceof VariableTree
                    && !((VariableTree) member).getModifiers().getFlags().contains(Modifier.STATIC);
        }

        @Override
        public Void visitMethod(MethodTree tree, Void v) {
            count("methods");
            ExecutableElement element = (ExecutableElement) trees.getElement(getCurrentPath());
            String before = method;
            method = keyOf(element);
            calls.computeIfAbsent(method, k -> new TreeSet<>());
            if (tree.getParameters().size() > MOST_PARAMETERS) {
                fault(tree, "11: more than seven parameters");
            }
            long lines = lastLine(tree) - firstLine(tree) + 1;
            if (lines > MOST_LINES) {
                fault(tree, "11: " + lines + " lines in " + method);
            }
            if (!tree.getThrows().isEmpty()) {
                fault(tree, "6: throws");
            }
            boolean constructor = element.getKind() == ElementKind.CONSTRUCTOR;
            boolean open = element.getModifiers().contains(Modifier.PUBLIC);
            boolean outermost = element.getEnclosingElement().getEnclosingElement().getKind() == ElementKind.PACKAGE;
            if (outermost && !open && !element.getModifiers().contains(Modifier.PRIVATE)) {
                fault(tree, "1: a member that is neither public nor private");
            }
            if (!constructor) {
                (open && outermost ? publicNames : otherNames).add(element.getSimpleName().toString());
            }
            checkType(tree, element.getReturnType());
            super.visitMethod(tree, v);
            method = before;
            return null;
        }

        private long firstLine(Tree tree) {
            return unit.getLineMap().getLineNumber(trees.getSourcePositions().getStartPosition(unit, tree));
        }

        private long lastLine(Tree tree) {
            return unit.getLineMap().getLineNumber(trees.getSourcePositions().getEndPosition(unit, tree));
        }

        @Override
        public Void visitVariable(VariableTree tree, Void v) {
            Element element = trees.getElement(getCurrentPath());
            checkType(tree, element.asType());
            if (element.getKind() == ElementKind.FIELD) {
                Set<Modifier> modifiers = element.getModifiers();
                if (modifiers.contains(Modifier.STATIC) && !modifiers.contains(Modifier.FINAL)) {
                    fault(tree, "5: a static field that is not final");
                }
                if (modifiers.contains(Modifier.STATIC) && !isConstant(element.asType())) {
                    fault(tree, "5: a static field of " + element.asType());
                }
            }
            return super.visitVariable(tree, v);
        }

        private boolean isConstant(TypeMirror type) {
            return Arrays.asList("int", "long", "boolean", "char", "java.lang.String",
                    "int[]", "long[]", "char[]", "byte[]").contains(type.toString());
        }

        private void checkType(Tree tree, TypeMirror type) {
            TypeMirror inner = type;
            int dimensions = 0;
            while (inner.getKind() == TypeKind.ARRAY) {
                inner = ((ArrayType) inner).getComponentType();
                dimensions++;
            }
            boolean number = inner.getKind().isPrimitive();
            String name = inner.toString();
            boolean known = number || inner.getKind() == TypeKind.VOID || name.startsWith("SermonPanes")
                    || name.equals("java.lang.String") || name.equals("java.lang.StringBuilder");
            if (!known || dimensions > (number ? 2 : 1)) {
                fault(tree, "3: the type " + type);
            }
        }

        @Override
        public Void visitMethodInvocation(MethodInvocationTree tree, Void v) {
            count("calls");
            Element called = trees.getElement(new TreePath(getCurrentPath(), tree.getMethodSelect()));
            if (called instanceof ExecutableElement) {
                noteCall(tree, (ExecutableElement) called);
            }
            return super.visitMethodInvocation(tree, v);
        }

        private void noteCall(Tree tree, ExecutableElement called) {
            String type = ((TypeElement) called.getEnclosingElement()).getQualifiedName().toString();
            String name = called.getSimpleName().toString();
            boolean own = type.startsWith("SermonPanes");
            boolean cloned = name.equals("clone") && type.equals("Array");
            if (!own && !cloned && !LIBRARY.getOrDefault(type, Set.of()).contains(name)) {
                fault(tree, "4: " + type + "." + name);
            }
            calls.computeIfAbsent(method, k -> new TreeSet<>()).add(keyOf(called));
        }

        @Override
        public Void visitNewClass(NewClassTree tree, Void v) {
            noteMaking(tree);
            if (tree.getClassBody() != null) {
                fault(tree, "2: an anonymous class");
            }
            Element made = trees.getElement(getCurrentPath());
            if (made instanceof ExecutableElement) {
                noteMade(tree, (ExecutableElement) made);
            }
            return super.visitNewClass(tree, v);
        }

        private void noteMade(Tree tree, ExecutableElement made) {
            String type = ((TypeElement) made.getEnclosingElement()).getQualifiedName().toString();
            if (!type.startsWith("SermonPanes") && !type.equals("java.lang.String")
                    && !type.equals("java.lang.StringBuilder")) {
                fault(tree, "4: new " + type);
            }
            calls.computeIfAbsent(method, k -> new TreeSet<>()).add(keyOf(made));
        }

        @Override
        public Void visitNewArray(NewArrayTree tree, Void v) {
            noteMaking(tree);
            return super.visitNewArray(tree, v);
        }

        /** What a constructor makes is made once; what a method makes counts for each call. */
        private void noteMaking(Tree tree) {
            count("makings");
            if (method.isEmpty() || method.contains("<init>")) {
                return;
            }
            makers.add(method);
            for (TreePath path = getCurrentPath(); path != null; path = path.getParentPath()) {
                Tree.Kind kind = path.getLeaf().getKind();
                if (path.getLeaf() instanceof MethodTree) {
                    return;
                }
                if (kind == Tree.Kind.FOR_LOOP || kind == Tree.Kind.WHILE_LOOP || kind == Tree.Kind.DO_WHILE_LOOP
                        || kind == Tree.Kind.ENHANCED_FOR_LOOP) {
                    fault(tree, "12: something is made in a loop of " + method);
                }
            }
        }

        @Override
        public Void visitForLoop(ForLoopTree tree, Void v) {
            checkEnd(tree, tree.getCondition());
            return super.visitForLoop(tree, v);
        }

        @Override
        public Void visitWhileLoop(WhileLoopTree tree, Void v) {
            checkEnd(tree, tree.getCondition());
            return super.visitWhileLoop(tree, v);
        }

        @Override
        public Void visitDoWhileLoop(DoWhileLoopTree tree, Void v) {
            checkEnd(tree, tree.getCondition());
            return super.visitDoWhileLoop(tree, v);
        }

        /** A counter against a bound must be among what the loop's head asks. */
        private void checkEnd(Tree loop, ExpressionTree condition) {
            count("loops");
            String head = condition == null ? "" : condition.toString();
            if (!head.contains("<") && !head.contains(">")) {
                fault(loop, "9: a loop without a bound in its head");
            }
        }

        @Override
        public Void visitBinary(BinaryTree tree, Void v) {
            TypeMirror left = trees.getTypeMirror(new TreePath(getCurrentPath(), tree.getLeftOperand()));
            TypeMirror right = trees.getTypeMirror(new TreePath(getCurrentPath(), tree.getRightOperand()));
            if (isText(left) || isText(right)) {
                fault(tree, "6, 10: an operator on texts");
            }
            return super.visitBinary(tree, v);
        }

        @Override
        public Void visitCompoundAssignment(CompoundAssignmentTree tree, Void v) {
            if (isText(trees.getTypeMirror(new TreePath(getCurrentPath(), tree.getVariable())))) {
                fault(tree, "10: an operator on texts");
            }
            return super.visitCompoundAssignment(tree, v);
        }

        private boolean isText(TypeMirror type) {
            return type != null && type.toString().equals("java.lang.String");
        }

        @Override
        public Void visitTypeCast(TypeCastTree tree, Void v) {
            TypeMirror to = trees.getTypeMirror(new TreePath(getCurrentPath(), tree.getType()));
            if (to != null && !to.getKind().isPrimitive()) {
                fault(tree, "6: a cast of an object, to be looked at by hand");
            }
            return super.visitTypeCast(tree, v);
        }

        @Override
        public Void visitInstanceOf(InstanceOfTree tree, Void v) {
            fault(tree, "6: instanceof, to be looked at by hand");
            return super.visitInstanceOf(tree, v);
        }

        @Override
        public Void visitLambdaExpression(LambdaExpressionTree tree, Void v) {
            fault(tree, "2: a lambda");
            return super.visitLambdaExpression(tree, v);
        }

        @Override
        public Void visitMemberReference(MemberReferenceTree tree, Void v) {
            fault(tree, "2: a method reference");
            return super.visitMemberReference(tree, v);
        }

        @Override
        public Void visitThrow(ThrowTree tree, Void v) {
            fault(tree, "6: throw");
            return super.visitThrow(tree, v);
        }

        @Override
        public Void visitTry(TryTree tree, Void v) {
            fault(tree, "6: try");
            return super.visitTry(tree, v);
        }

        @Override
        public Void visitSynchronized(SynchronizedTree tree, Void v) {
            fault(tree, "6: synchronized");
            return super.visitSynchronized(tree, v);
        }

        @Override
        public Void visitAssert(AssertTree tree, Void v) {
            fault(tree, "6: assert");
            return super.visitAssert(tree, v);
        }
    }

    private static String keyOf(ExecutableElement method) {
        StringBuilder key = new StringBuilder(method.getEnclosingElement().getSimpleName());
        key.append('.').append(method.getSimpleName()).append('/').append(method.getParameters().size());
        return key.toString();
    }

    // ---- how deep calls go ----

    /** All methods that a method may come to. */
    private Set<String> reached(String from) {
        Set<String> all = new HashSet<>();
        List<String> open = new ArrayList<>(calls.getOrDefault(from, Set.of()));
        while (!open.isEmpty()) {
            String next = open.remove(open.size() - 1);
            if (all.add(next)) {
                open.addAll(calls.getOrDefault(next, Set.of()));
            }
        }
        return all;
    }

    /** The longest chain of calls; methods that call one another in a ring are one link of it. */
    private List<String> deepest(String from, Map<String, Set<String>> ways, Map<String, List<String>> known) {
        if (known.containsKey(from)) {
            return known.get(from);
        }
        List<String> best = new ArrayList<>();
        for (String to : ways.getOrDefault(from, Set.of())) {
            boolean ring = ways.getOrDefault(to, Set.of()).contains(from);
            if (!ring) {
                List<String> chain = deepest(to, ways, known);
                best = chain.size() > best.size() ? chain : best;
            }
        }
        List<String> whole = new ArrayList<>();
        whole.add(from);
        whole.addAll(best);
        known.put(from, whole);
        return whole;
    }

    private int checkDepth() {
        Map<String, Set<String>> ways = new HashMap<>();
        for (String from : calls.keySet()) {
            ways.put(from, reached(from));
        }
        Map<String, List<String>> known = new HashMap<>();
        int most = 0;
        for (String from : calls.keySet()) {
            List<String> chain = deepest(from, ways, known);
            most = Math.max(most, chain.size());
            if (chain.size() > DEEPEST) {
                faults.add("11: " + chain.size() + " calls deep: " + chain);
            }
        }
        return most;
    }

    // ---- the whole ----

    private void checkSource(File file) throws IOException {
        for (byte b : Files.readAllBytes(file.toPath())) {
            if (b <= 0 || b == '\t' || b == '\r') {
                faults.add("4: a sign that is not plain: " + b);
            }
        }
        JavaCompiler compiler = ToolProvider.getSystemJavaCompiler();
        StandardJavaFileManager files = compiler.getStandardFileManager(null, null, StandardCharsets.UTF_8);
        JavacTask task = (JavacTask) compiler.getTask(null, files, null, List.of("-proc:none"), null,
                files.getJavaFileObjects(file));
        trees = Trees.instance(task);
        List<CompilationUnitTree> units = new ArrayList<>();
        for (CompilationUnitTree read : task.parse()) {
            units.add(read);
        }
        task.analyze();
        for (CompilationUnitTree read : units) {
            unit = read;
            if (unit.getPackage() != null) {
                faults.add("a package line");
            }
            new Scanner().scan(new TreePath(unit), null);
        }
    }

    private void checkWhole() {
        if (seen.getOrDefault("classes", 0) > MOST_CLASSES) {
            faults.add("11: " + seen.get("classes") + " classes");
        }
        for (String name : otherNames) {
            if (publicNames.contains(name)) {
                faults.add("1: " + name + " bears the name of a public method");
            }
        }
        // "count your dearest call's objects": a new one is a thing to count first, then to add here.
        if (!makers.equals(Set.of("Text.trimmed/0"))) {
            faults.add("12: what makes objects behind the constructor: " + makers);
        }
        // A reading that saw nothing would find nothing.
        for (String what : List.of("classes", "methods", "calls", "makings", "loops")) {
            if (seen.getOrDefault(what, 0) < 5) {
                faults.add("the source was not read: " + what);
            }
        }
    }

    public static void main(String[] args) throws IOException {
        LanguageTest test = new LanguageTest();
        test.checkSource(new File(args.length > 0 ? args[0] : "src/main/java/SermonPanes.java"));
        int depth = test.checkDepth();
        test.checkWhole();
        for (String fault : test.faults) {
            System.out.println("LANGUAGE.md, rule " + fault);
        }
        System.out.println(test.seen + ", " + depth + " calls deep, " + test.faults.size() + " faults");
        if (!test.faults.isEmpty()) {
            System.exit(1);
        }
    }
}
