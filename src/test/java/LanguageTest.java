import com.sun.source.tree.AssertTree;
import com.sun.source.tree.BinaryTree;
import com.sun.source.tree.ClassTree;
import com.sun.source.tree.CompilationUnitTree;
import com.sun.source.tree.DoWhileLoopTree;
import com.sun.source.tree.ForLoopTree;
import com.sun.source.tree.ImportTree;
import com.sun.source.tree.LambdaExpressionTree;
import com.sun.source.tree.LiteralTree;
import com.sun.source.tree.MemberReferenceTree;
import com.sun.source.tree.MethodInvocationTree;
import com.sun.source.tree.MethodTree;
import com.sun.source.tree.NewArrayTree;
import com.sun.source.tree.NewClassTree;
import com.sun.source.tree.SynchronizedTree;
import com.sun.source.tree.ThrowTree;
import com.sun.source.tree.Tree;
import com.sun.source.tree.TryTree;
import com.sun.source.tree.VariableTree;
import com.sun.source.tree.WhileLoopTree;
import com.sun.source.util.JavacTask;
import com.sun.source.util.SourcePositions;
import com.sun.source.util.TreePath;
import com.sun.source.util.TreePathScanner;
import com.sun.source.util.Trees;
import java.io.IOException;
import java.lang.reflect.Modifier;
import java.nio.file.Files;
import java.nio.file.Path;
import java.util.ArrayList;
import java.util.Arrays;
import java.util.HashMap;
import java.util.HashSet;
import java.util.LinkedHashSet;
import java.util.List;
import java.util.Map;
import java.util.Set;
import java.util.TreeSet;
import java.util.regex.Matcher;
import java.util.regex.Pattern;
import javax.lang.model.element.Element;
import javax.lang.model.element.ElementKind;
import javax.lang.model.element.TypeElement;
import javax.tools.JavaCompiler;
import javax.tools.ToolProvider;

/** The rules of LANGUAGE.md that can be seen in the source, and the face of the class. */
public final class LanguageTest {
    private static final Path SOURCE = Path.of("src/main/java/ScaffoldReasons.java");
    private static final Set<String> LIBRARY = Set.of("String.length", "String.charAt", "String.indexOf", "Integer.bitCount",
            "Math.max", "Math.min", "Math.abs", "System.arraycopy", "Arrays.fill");
    private static final Set<String> STATIC_TYPES = Set.of("int", "long", "boolean", "char", "String",
            "int[]", "long[]", "char[]", "byte[]");
    private static int wrong;

    private final Map<Element, Set<Element>> calls = new HashMap<>();
    private final Set<String> faceNames = new HashSet<>();

    private static void fault(String what) {
        wrong++;
        System.out.println(what);
    }

    public static void main(String[] args) throws IOException {
        LanguageTest test = new LanguageTest();
        test.face();
        test.source();
        test.depths();
        System.out.println(wrong == 0 ? "the source keeps to the rules" : wrong + " rules are broken");
        if (wrong != 0) {
            System.exit(1);
        }
    }

    /** Rule 1: the class has the document's face and nothing else that can be seen. */
    private void face() throws IOException {
        String doc = Files.readString(Path.of(System.getProperty("shared", "../shared"), "DOC.md"));
        String block = doc.substring(doc.indexOf("public final class"), doc.indexOf("## Terms"));
        Set<String> due = new TreeSet<>();
        Matcher m = Pattern.compile("public (\\w+) (\\w+)\\(([^)]*)\\);").matcher(block);
        while (m.find()) {
            faceNames.add(m.group(2));
            due.add(m.group(1) + " " + m.group(2) + "(" + m.group(3).replaceAll("(\\w+) \\w+", "$1").replace(" ", "") + ")");
        }
        Set<String> got = new TreeSet<>();
        for (var method : ScaffoldReasons.class.getDeclaredMethods()) {
            if (!Modifier.isPrivate(method.getModifiers())) {
                String types = String.join(",", Arrays.stream(method.getParameterTypes()).map(Class::getName).toList());
                got.add(method.getReturnType().getName() + " " + method.getName() + "(" + types + ")");
            } else if (faceNames.contains(method.getName())) {
                fault("rule 1: private " + method.getName());
            }
        }
        if (!due.equals(got) || due.size() != 54 - 1) {
            fault("rule 1: the face is " + got + ", due is " + due);
        }
        for (var field : ScaffoldReasons.class.getDeclaredFields()) {
            if (!Modifier.isPrivate(field.getModifiers()) && !field.getName().equals("NONE")) {
                fault("rule 1: field " + field);
            }
        }
        if (ScaffoldReasons.class.getDeclaredClasses().length > 11) {
            fault("rule 11: too many classes");
        }
    }

    private void source() throws IOException {
        JavaCompiler compiler = ToolProvider.getSystemJavaCompiler();
        var files = compiler.getStandardFileManager(null, null, null);
        JavacTask task = (JavacTask) compiler.getTask(null, files, null, List.of("-proc:none"), null,
                files.getJavaFileObjects(SOURCE));
        List<CompilationUnitTree> units = new ArrayList<>();
        task.parse().forEach(units::add);
        task.analyze();
        Trees trees = Trees.instance(task);
        for (CompilationUnitTree unit : units) {
            new Rules(unit, trees).scan(unit, null);
        }
        for (char c : Files.readString(SOURCE).toCharArray()) {
            if (c > 126) {
                fault("rule 4: a sign above 126");
            }
        }
    }

    /** Rule 11: calls that are no recursion go at most eight deep; methods that call one another count once. */
    private void depths() {
        for (Element method : calls.keySet()) {
            int depth = depth(method, new LinkedHashSet<>());
            if (depth > 8) {
                fault("rule 11: calls of " + method + " go " + depth + " deep");
            }
        }
    }

    private boolean reaches(Element from, Element to, Set<Element> seen) {
        for (Element next : calls.getOrDefault(from, Set.of())) {
            if (next.equals(to) || seen.add(next) && reaches(next, to, seen)) {
                return true;
            }
        }
        return false;
    }

    private int depth(Element method, Set<Element> open) {
        int most = 0;
        Set<Element> group = new HashSet<>(Set.of(method));
        for (Element other : calls.keySet()) {
            if (reaches(method, other, new HashSet<>()) && reaches(other, method, new HashSet<>())) {
                group.add(other);
            }
        }
        for (Element one : group) {
            for (Element next : calls.getOrDefault(one, Set.of())) {
                if (!group.contains(next) && open.add(next)) {
                    most = Math.max(most, depth(next, open));
                    open.remove(next);
                }
            }
        }
        return most + 1;
    }

    private final class Rules extends TreePathScanner<Void, Void> {
        private final CompilationUnitTree unit;
        private final Trees trees;
        private Element method;

        Rules(CompilationUnitTree unit, Trees trees) {
            this.unit = unit;
            this.trees = trees;
        }

        private long line(long position) {
            return unit.getLineMap().getLineNumber(position);
        }

        private void broken(String rule, Tree tree) {
            fault(rule + " at line " + line(trees.getSourcePositions().getStartPosition(unit, tree)));
        }

        @Override
        public Void visitImport(ImportTree tree, Void nothing) {
            if (!tree.getQualifiedIdentifier().toString().equals("java.util.Arrays")) {
                broken("rule 4: import", tree);
            }
            return super.visitImport(tree, nothing);
        }

        @Override
        public Void visitClass(ClassTree tree, Void nothing) {
            Element type = trees.getElement(getCurrentPath());
            boolean nested = type.getEnclosingElement() instanceof TypeElement;
            if (nested && !type.getModifiers().contains(javax.lang.model.element.Modifier.STATIC)) {
                broken("rule 2: a class that isn't static", tree);
            }
            if (type.getEnclosingElement().getKind() == ElementKind.METHOD || tree.getSimpleName().length() == 0) {
                broken("rule 2: a class inside a method", tree);
            }
            int fields = 0;
            for (Tree member : tree.getMembers()) {
                if (member.getKind() == Tree.Kind.BLOCK) {
                    broken("rule 5: an initialiser block", member);
                }
                if (member instanceof VariableTree field) {
                    fields += checkField(field);
                }
            }
            if (fields > 20) {
                broken("rule 11: too many fields", tree);
            }
            return super.visitClass(tree, nothing);
        }

        private int checkField(VariableTree field) {
            var flags = field.getModifiers().getFlags();
            if (!flags.contains(javax.lang.model.element.Modifier.STATIC)) {
                return 1;
            }
            if (!flags.contains(javax.lang.model.element.Modifier.FINAL) || !STATIC_TYPES.contains(field.getType().toString())) {
                broken("rule 5: a static field", field);
            }
            return 0;
        }

        @Override
        public Void visitMethod(MethodTree tree, Void nothing) {
            method = trees.getElement(getCurrentPath());
            calls.putIfAbsent(method, new HashSet<>());
            SourcePositions at = trees.getSourcePositions();
            if (tree.getParameters().size() > 7) {
                broken("rule 11: more than seven parameters", tree);
            }
            if (line(at.getEndPosition(unit, tree)) - line(at.getStartPosition(unit, tree)) >= 60) {
                broken("rule 11: a long method", tree);
            }
            boolean ofFace = ((ClassTree) getCurrentPath().getParentPath().getLeaf()).getSimpleName().contentEquals("ScaffoldReasons");
            if (!ofFace && faceNames.contains(tree.getName().toString())) {
                broken("rule 1: a method with a name of the face", tree);
            }
            super.visitMethod(tree, nothing);
            method = null;
            return null;
        }

        @Override
        public Void visitMethodInvocation(MethodInvocationTree tree, Void nothing) {
            Element called = trees.getElement(new TreePath(getCurrentPath(), tree.getMethodSelect()));
            TypeElement owner = (TypeElement) called.getEnclosingElement();
            boolean own = owner.getQualifiedName().toString().startsWith("ScaffoldReasons");
            String name = owner.getSimpleName() + "." + called.getSimpleName();
            if (own && method != null) {
                calls.computeIfAbsent(method, m -> new HashSet<>()).add(called);
            }
            if (!own && called.getKind() == ElementKind.METHOD && !LIBRARY.contains(name)) {
                broken("rule 4: " + name, tree);
            }
            return super.visitMethodInvocation(tree, nothing);
        }

        private void refuseOutsideConstructors(Tree tree) {
            if (method != null && method.getKind() != ElementKind.CONSTRUCTOR) {
                broken("rule 12: made in a call", tree);
            }
        }

        @Override
        public Void visitNewClass(NewClassTree tree, Void nothing) {
            refuseOutsideConstructors(tree);
            return super.visitNewClass(tree, nothing);
        }

        @Override
        public Void visitNewArray(NewArrayTree tree, Void nothing) {
            refuseOutsideConstructors(tree);
            return super.visitNewArray(tree, nothing);
        }

        @Override
        public Void visitBinary(BinaryTree tree, Void nothing) {
            var type = trees.getTypeMirror(getCurrentPath());
            if (tree.getKind() == Tree.Kind.PLUS && !type.getKind().isPrimitive()) {
                broken("rule 10: texts joined by +", tree);
            }
            boolean divides = tree.getKind() == Tree.Kind.DIVIDE || tree.getKind() == Tree.Kind.REMAINDER;
            if (divides && !(tree.getRightOperand() instanceof LiteralTree)
                    && !tree.getRightOperand().toString().matches("[A-Z_]+|by|right|count|lesser|common")) {
                broken("rule 7: a divisor", tree);
            }
            return super.visitBinary(tree, nothing);
        }

        @Override
        public Void visitForLoop(ForLoopTree tree, Void nothing) {
            if (tree.getCondition() == null || tree.getInitializer().isEmpty() || tree.getUpdate().isEmpty()) {
                broken("rule 9: a loop without a bound", tree);
            }
            return super.visitForLoop(tree, nothing);
        }

        @Override
        public Void visitWhileLoop(WhileLoopTree tree, Void nothing) {
            broken("rule 9: while", tree);
            return null;
        }

        @Override
        public Void visitDoWhileLoop(DoWhileLoopTree tree, Void nothing) {
            broken("rule 9: do", tree);
            return null;
        }

        @Override
        public Void visitThrow(ThrowTree tree, Void nothing) {
            broken("rule 6: throw", tree);
            return null;
        }

        @Override
        public Void visitTry(TryTree tree, Void nothing) {
            broken("rule 6: try", tree);
            return null;
        }

        @Override
        public Void visitSynchronized(SynchronizedTree tree, Void nothing) {
            broken("rule 6: synchronized", tree);
            return null;
        }

        @Override
        public Void visitAssert(AssertTree tree, Void nothing) {
            broken("rule 6: assert", tree);
            return null;
        }

        @Override
        public Void visitLambdaExpression(LambdaExpressionTree tree, Void nothing) {
            broken("rule 2: a lambda", tree);
            return null;
        }

        @Override
        public Void visitMemberReference(MemberReferenceTree tree, Void nothing) {
            broken("rule 2: a method reference", tree);
            return null;
        }
    }
}
