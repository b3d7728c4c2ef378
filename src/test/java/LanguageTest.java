import com.sun.source.tree.AssertTree;
import com.sun.source.tree.BinaryTree;
import com.sun.source.tree.ClassTree;
import com.sun.source.tree.CompilationUnitTree;
import com.sun.source.tree.InstanceOfTree;
import com.sun.source.tree.LambdaExpressionTree;
import com.sun.source.tree.MemberReferenceTree;
import com.sun.source.tree.MethodInvocationTree;
import com.sun.source.tree.MethodTree;
import com.sun.source.tree.NewArrayTree;
import com.sun.source.tree.NewClassTree;
import com.sun.source.tree.SwitchExpressionTree;
import com.sun.source.tree.SynchronizedTree;
import com.sun.source.tree.ThrowTree;
import com.sun.source.tree.Tree;
import com.sun.source.tree.TryTree;
import com.sun.source.tree.VariableTree;
import com.sun.source.util.JavacTask;
import com.sun.source.util.TreePath;
import com.sun.source.util.TreePathScanner;
import com.sun.source.util.Trees;
import java.io.IOException;
import java.nio.file.Path;
import java.util.ArrayList;
import java.util.HashMap;
import java.util.HashSet;
import java.util.List;
import java.util.Map;
import java.util.Set;
import java.util.TreeMap;
import java.util.TreeSet;
import javax.lang.model.element.Element;
import javax.lang.model.element.ElementKind;
import javax.lang.model.element.Modifier;
import javax.lang.model.type.TypeMirror;
import javax.tools.JavaCompiler;
import javax.tools.StandardJavaFileManager;
import javax.tools.ToolProvider;

/** Rules 2 to 6, 11 and 12 of LANGUAGE.md, looked at in the tree that the compiler makes of the class. */
public final class LanguageTest {
    private static final Check check = new Check();
    private static final Set<String> LIBRARY = Set.of("java.lang.String.indexOf", "java.lang.Integer.bitCount",
        "java.lang.Math.min", "java.lang.Math.max", "java.util.Arrays.fill", "java.lang.System.arraycopy",
        "java.lang.Object.<init>");
    private static final int DEEPEST = 8;

    public static void main(String[] args) throws IOException {
        Path root = Path.of(args.length > 0 ? args[0] : ".");
        JavaCompiler compiler = ToolProvider.getSystemJavaCompiler();
        try (StandardJavaFileManager files = compiler.getStandardFileManager(null, null, null)) {
            var sources = files.getJavaFileObjects(root.resolve("src/main/java/WordKeys.java"));
            JavacTask task = (JavacTask) compiler.getTask(null, files, null, List.of("-proc:none"), null, sources);
            CompilationUnitTree unit = task.parse().iterator().next();
            task.analyze();
            Looker looker = new Looker(Trees.instance(task));
            looker.scan(unit, null);
            check.due("methods were found", looker.calls.size() > 100, true);
            depth(looker.calls);
        }
        check.finish("LanguageTest");
    }

    private static final class Looker extends TreePathScanner<Void, Void> {
        final Trees trees;
        final Map<String, Set<String>> calls = new TreeMap<>();
        private String method = "none";

        Looker(Trees trees) {
            this.trees = trees;
        }

        private Element element() {
            return trees.getElement(getCurrentPath());
        }

        private static String nameOf(Element element) {
            return element.getEnclosingElement() + "." + element.getSimpleName();
        }

        private Void refuse(String what, Tree tree) {
            check.due(what + " in " + method + ": " + tree, 1, 0);
            return null;
        }

        @Override
        public Void visitMethod(MethodTree tree, Void nothing) {
            method = nameOf(element());
            calls.computeIfAbsent(method, name -> new TreeSet<>());
            check.due("parameters of " + method, tree.getParameters().size() <= 7, true);
            return super.visitMethod(tree, nothing);
        }

        @Override
        public Void visitMethodInvocation(MethodInvocationTree tree, Void nothing) {
            called(element());
            return super.visitMethodInvocation(tree, nothing);
        }

        @Override
        public Void visitNewClass(NewClassTree tree, Void nothing) {
            check.due("no anonymous class in " + method, tree.getClassBody() == null, true);
            called(element());
            return super.visitNewClass(tree, nothing);
        }

        private void called(Element element) {
            String name = nameOf(element);
            if (name.startsWith("WordKeys")) {
                calls.computeIfAbsent(method, from -> new TreeSet<>()).add(name);
            } else {
                check.due("the library has " + name, LIBRARY.contains(name), true);
            }
        }

        @Override
        public Void visitClass(ClassTree tree, Void nothing) {
            Element element = element();
            boolean isOuter = element.toString().equals("WordKeys");
            boolean isNested = element.getEnclosingElement().toString().equals("WordKeys");
            check.due(element + " is static, of WordKeys", isOuter || isNested && element.getModifiers().contains(Modifier.STATIC),
                true);
            return super.visitClass(tree, nothing);
        }

        @Override
        public Void visitVariable(VariableTree tree, Void nothing) {
            Element element = element();
            String type = trees.getTypeMirror(new TreePath(getCurrentPath(), tree.getType())).toString();
            boolean isPlain = type.matches("(int|long|byte|boolean|char)(\\[\\])?|java.lang.String|WordKeys\\.\\w+(\\[\\])?");
            check.due("the type of " + tree, isPlain, true);
            if (element.getKind() == ElementKind.FIELD) {
                method = element.getEnclosingElement() + ".<init>";
            }
            if (element.getKind() == ElementKind.FIELD && element.getModifiers().contains(Modifier.STATIC)) {
                boolean isConstant = ((javax.lang.model.element.VariableElement) element).getConstantValue() != null;
                check.due("a constant: " + tree, isConstant && element.getModifiers().contains(Modifier.FINAL), true);
            }
            return super.visitVariable(tree, nothing);
        }

        @Override
        public Void visitNewArray(NewArrayTree tree, Void nothing) {
            check.due("rows are made when an object is: " + tree, method.endsWith("<init>"), true);
            return super.visitNewArray(tree, nothing);
        }

        @Override
        public Void visitBinary(BinaryTree tree, Void nothing) {
            TypeMirror type = trees.getTypeMirror(getCurrentPath());
            check.due("numbers alone: " + tree, type.getKind().isPrimitive(), true);
            return super.visitBinary(tree, nothing);
        }

        @Override
        public Void visitThrow(ThrowTree tree, Void nothing) {
            return refuse("throw", tree);
        }

        @Override
        public Void visitTry(TryTree tree, Void nothing) {
            return refuse("try", tree);
        }

        @Override
        public Void visitAssert(AssertTree tree, Void nothing) {
            return refuse("assert", tree);
        }

        @Override
        public Void visitSynchronized(SynchronizedTree tree, Void nothing) {
            return refuse("synchronized", tree);
        }

        @Override
        public Void visitLambdaExpression(LambdaExpressionTree tree, Void nothing) {
            return refuse("lambda", tree);
        }

        @Override
        public Void visitMemberReference(MemberReferenceTree tree, Void nothing) {
            return refuse("method reference", tree);
        }

        @Override
        public Void visitSwitchExpression(SwitchExpressionTree tree, Void nothing) {
            return refuse("switch that answers", tree);
        }

        @Override
        public Void visitInstanceOf(InstanceOfTree tree, Void nothing) {
            return refuse("instanceof", tree);
        }
    }

    /** Rule 11: methods that call one another round and round (recursion) count as one step. */
    private static void depth(Map<String, Set<String>> calls) {
        Map<String, Set<String>> reached = new HashMap<>();
        for (String from : calls.keySet()) {
            Set<String> seen = new HashSet<>();
            List<String> open = new ArrayList<>(calls.get(from));
            while (!open.isEmpty()) {
                String next = open.remove(open.size() - 1);
                if (seen.add(next)) {
                    open.addAll(calls.getOrDefault(next, Set.of()));
                }
            }
            reached.put(from, seen);
        }
        Map<String, Integer> depths = new HashMap<>();
        for (String from : calls.keySet()) {
            check.due(from + " goes deep", depthOf(from, calls, reached, depths) <= DEEPEST, true);
        }
        check.due("depth was found", depths.values().stream().anyMatch(depth -> depth > 4), true);
    }

    private static int depthOf(String from, Map<String, Set<String>> calls, Map<String, Set<String>> reached,
            Map<String, Integer> depths) {
        Integer known = depths.get(from);
        if (known != null) {
            return known;
        }
        int deepest = 0;
        for (String other : calls.keySet()) {
            boolean isSameRound = other.equals(from)
                || reached.get(from).contains(other) && reached.get(other).contains(from);
            if (!isSameRound) {
                continue;
            }
            for (String next : calls.get(other)) {
                boolean staysInRound = next.equals(from) || reached.get(next).contains(from);
                if (!staysInRound) {
                    deepest = Math.max(deepest, depthOf(next, calls, reached, depths));
                }
            }
        }
        depths.put(from, deepest + 1);
        return deepest + 1;
    }
}
