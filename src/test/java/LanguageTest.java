import com.sun.source.tree.AssertTree;
import com.sun.source.tree.BinaryTree;
import com.sun.source.tree.BlockTree;
import com.sun.source.tree.ClassTree;
import com.sun.source.tree.CompilationUnitTree;
import com.sun.source.tree.ImportTree;
import com.sun.source.tree.LambdaExpressionTree;
import com.sun.source.tree.MemberReferenceTree;
import com.sun.source.tree.MethodInvocationTree;
import com.sun.source.tree.MethodTree;
import com.sun.source.tree.NewClassTree;
import com.sun.source.tree.SynchronizedTree;
import com.sun.source.tree.ThrowTree;
import com.sun.source.tree.Tree;
import com.sun.source.tree.TryTree;
import com.sun.source.tree.TypeCastTree;
import com.sun.source.tree.VariableTree;
import com.sun.source.util.JavacTask;
import com.sun.source.util.TreePath;
import com.sun.source.util.TreePathScanner;
import com.sun.source.util.Trees;
import java.io.IOException;
import java.nio.file.Path;
import java.util.HashMap;
import java.util.HashSet;
import java.util.List;
import java.util.Map;
import java.util.Set;
import java.util.TreeMap;
import java.util.TreeSet;
import javax.lang.model.element.Element;
import javax.lang.model.element.ExecutableElement;
import javax.lang.model.element.Modifier;
import javax.lang.model.type.TypeMirror;
import javax.tools.JavaCompiler;
import javax.tools.StandardJavaFileManager;
import javax.tools.ToolProvider;

/** The rules of LANGUAGE.md that the compiler's own tree of the program can tell, by number. */
public final class LanguageTest {
    private static final Due DUE = new Due("LanguageTest");
    private static final Path PROGRAM = Path.of("src/main/java/TriggerHall.java");
    private static final int DEEPEST = 8;
    private static final int LONGEST = 60;
    private static final int MOST_PARAMETERS = 7;
    private static final Set<String> IMPORTS = Set.of("java.util.ArrayList", "java.util.List", "java.util.Arrays");
    private static final Set<String> LISTS = Set.of("add", "get", "set", "remove", "size", "isEmpty", "clear", "of");
    private static final Set<String> OBJECTS = Set.of("equals", "hashCode", "toString");
    private static final Set<String> TYPES =
        Set.of("int", "long", "short", "byte", "char", "boolean", "int[]", "char[]");
    private static final Set<String> LIBRARY_TYPES = Set.of("java.util.ArrayList", "java.util.List");

    public static void main(String[] args) throws IOException {
        JavaCompiler compiler = ToolProvider.getSystemJavaCompiler();
        try (StandardJavaFileManager files = compiler.getStandardFileManager(null, null, null)) {
            JavacTask task = (JavacTask) compiler.getTask(null, files, null, List.of("-proc:none"), null,
                files.getJavaFileObjects(PROGRAM));
            Iterable<? extends CompilationUnitTree> units = task.parse();
            task.analyze();
            for (CompilationUnitTree unit : units) {
                Reading reading = new Reading(Trees.instance(task), unit);
                reading.scan(unit, null);
                depths(reading.calls, reading.parameters);
            }
        }
        DUE.end();
    }

    /** Rules 8 and 11: methods that call one another in a ring count as one, and carry their depth. */
    private static void depths(Map<String, Set<String>> calls, Map<String, Integer> parameters) {
        DUE.holds("the program's methods are found", calls.size() > 50 && calls.containsKey("TriggerHall.fire"));
        Map<String, Set<String>> reached = new HashMap<>();
        for (String from : calls.keySet()) {
            Set<String> seen = new HashSet<>();
            reach(from, calls, seen);
            reached.put(from, seen);
        }
        int rings = 0;
        for (String method : calls.keySet()) {
            if (reached.get(method).contains(method)) {
                rings++;
                DUE.holds("rule 8, a depth is carried: " + method, parameters.get(method) > 0);
            }
            int deep = deepest(method, calls, reached, new HashMap<>());
            DUE.holds("rule 11, at most eight deep: " + method + " goes " + deep, deep <= DEEPEST);
        }
        DUE.holds("the recursions are found", rings >= 3);
    }

    private static void reach(String from, Map<String, Set<String>> calls, Set<String> seen) {
        for (String to : calls.getOrDefault(from, Set.of())) {
            if (seen.add(to)) reach(to, calls, seen);
        }
    }

    private static int deepest(String method, Map<String, Set<String>> calls, Map<String, Set<String>> reached,
            Map<String, Integer> known) {
        if (known.containsKey(method)) return known.get(method);
        Set<String> ring = new TreeSet<>(Set.of(method));
        for (String other : reached.get(method)) {
            if (reached.get(other).contains(method)) ring.add(other);
        }
        int below = 0;
        for (String member : ring) {
            for (String to : calls.get(member)) {
                if (!ring.contains(to)) below = Math.max(below, deepest(to, calls, reached, known));
            }
        }
        known.put(method, below + 1);
        return below + 1;
    }

    private static final class Reading extends TreePathScanner<Void, Void> {
        private final Trees trees;
        private final CompilationUnitTree unit;
        private final Map<String, Set<String>> calls = new TreeMap<>();
        private final Map<String, Integer> parameters = new TreeMap<>();
        private String within = "";

        private Reading(Trees trees, CompilationUnitTree unit) {
            this.trees = trees;
            this.unit = unit;
        }

        private long lineOf(long place) {
            return unit.getLineMap().getLineNumber(place);
        }

        private String at(Tree tree) {
            return " at line " + lineOf(trees.getSourcePositions().getStartPosition(unit, tree));
        }

        private void never(String rule, Tree tree) {
            DUE.holds(rule + at(tree), false);
        }

        @Override
        public Void visitImport(ImportTree tree, Void none) {
            DUE.holds("rule 4, " + tree, IMPORTS.contains(tree.getQualifiedIdentifier().toString()));
            return null;
        }

        @Override
        public Void visitClass(ClassTree tree, Void none) {
            boolean outer = getCurrentPath().getParentPath().getLeaf() == unit;
            boolean inside = getCurrentPath().getParentPath().getLeaf() instanceof ClassTree;
            Set<Modifier> flags = tree.getModifiers().getFlags();
            DUE.holds("rule 2, no local class" + at(tree), outer || inside);
            DUE.holds("rule 1, private and static" + at(tree),
                outer || flags.contains(Modifier.PRIVATE) && flags.contains(Modifier.STATIC));
            for (Tree member : tree.getMembers()) {
                if (member instanceof BlockTree) never("rule 5, no initialiser block", member);
            }
            return super.visitClass(tree, none);
        }

        @Override
        public Void visitMethod(MethodTree tree, Void none) {
            ExecutableElement method = (ExecutableElement) trees.getElement(getCurrentPath());
            boolean generated = trees.getSourcePositions().getEndPosition(unit, tree) < 0;
            within = nameOf(method);
            calls.putIfAbsent(within, new TreeSet<>());
            parameters.put(within, method.getParameters().size());
            DUE.holds("rule 6, " + within, !OBJECTS.contains(method.getSimpleName().toString()));
            DUE.holds("rule 11, at most seven parameters: " + within,
                method.getParameters().size() <= MOST_PARAMETERS);
            if (!generated) {
                long first = lineOf(trees.getSourcePositions().getStartPosition(unit, tree));
                long last = lineOf(trees.getSourcePositions().getEndPosition(unit, tree));
                DUE.holds("rule 11, short: " + within, last - first < LONGEST);
            }
            super.visitMethod(tree, none);
            within = "";
            return null;
        }

        private static String nameOf(Element method) {
            return method.getEnclosingElement().getSimpleName() + "." + method.getSimpleName();
        }

        @Override
        public Void visitMethodInvocation(MethodInvocationTree tree, Void none) {
            called(trees.getElement(new TreePath(getCurrentPath(), tree.getMethodSelect())), tree);
            return super.visitMethodInvocation(tree, none);
        }

        @Override
        public Void visitNewClass(NewClassTree tree, Void none) {
            if (tree.getClassBody() != null) never("rule 2, no anonymous class", tree);
            called(trees.getElement(getCurrentPath()), tree);
            return super.visitNewClass(tree, none);
        }

        private void called(Element method, Tree tree) {
            String owner = method.getEnclosingElement().toString();
            if (owner.startsWith("TriggerHall")) {
                if (!within.isEmpty()) calls.get(within).add(nameOf(method));
                return;
            }
            DUE.holds("rule 4, " + owner + "." + method.getSimpleName() + at(tree),
                isListed(owner, method.getSimpleName().toString()));
        }

        private static boolean isListed(String owner, String name) {
            switch (owner) {
                case "java.lang.Object":
                    return name.equals("<init>");
                case "java.lang.Integer", "java.lang.Long", "java.lang.Math":
                    return !name.endsWith("Exact") && !name.equals("random") && !name.equals("valueOf");
                case "java.util.List":
                    return LISTS.contains(name);
                case "java.util.ArrayList":
                    return LISTS.contains(name) || name.equals("<init>");
                case "java.lang.System":
                    return name.equals("arraycopy");
                case "java.util.Arrays":
                    return Set.of("copyOf", "copyOfRange", "fill").contains(name);
                default:
                    return false;
            }
        }

        @Override
        public Void visitVariable(VariableTree tree, Void none) {
            Element variable = trees.getElement(getCurrentPath());
            String type = elementType(variable.asType());
            DUE.holds("rule 3, " + type + at(tree), TYPES.contains(variable.asType().toString())
                || type.startsWith("TriggerHall") || LIBRARY_TYPES.contains(type));
            if (variable.getModifiers().contains(Modifier.STATIC)) {
                DUE.holds("rule 5, final" + at(tree), variable.getModifiers().contains(Modifier.FINAL));
                DUE.holds("rule 5, written out" + at(tree), tree.getInitializer() != null);
            }
            return super.visitVariable(tree, none);
        }

        private static String elementType(TypeMirror type) {
            return type.toString().replaceAll("<.*>|\\[]", "");
        }

        @Override
        public Void visitBinary(BinaryTree tree, Void none) {
            String type = trees.getTypeMirror(getCurrentPath()).toString();
            DUE.holds("rule 10, no texts joined" + at(tree), !type.equals("java.lang.String"));
            return super.visitBinary(tree, none);
        }

        @Override
        public Void visitTypeCast(TypeCastTree tree, Void none) {
            boolean number = trees.getTypeMirror(getCurrentPath()).getKind().isPrimitive();
            DUE.holds("rule 6, only numbers are cast" + at(tree), number);
            return super.visitTypeCast(tree, none);
        }

        @Override
        public Void visitThrow(ThrowTree tree, Void none) {
            never("rule 6, no throw", tree);
            return super.visitThrow(tree, none);
        }

        @Override
        public Void visitTry(TryTree tree, Void none) {
            never("rule 6, no try", tree);
            return super.visitTry(tree, none);
        }

        @Override
        public Void visitSynchronized(SynchronizedTree tree, Void none) {
            never("rule 6, no synchronized", tree);
            return super.visitSynchronized(tree, none);
        }

        @Override
        public Void visitAssert(AssertTree tree, Void none) {
            never("rule 6, no assert", tree);
            return super.visitAssert(tree, none);
        }

        @Override
        public Void visitLambdaExpression(LambdaExpressionTree tree, Void none) {
            never("rule 2, no lambda", tree);
            return super.visitLambdaExpression(tree, none);
        }

        @Override
        public Void visitMemberReference(MemberReferenceTree tree, Void none) {
            never("rule 2, no method reference", tree);
            return super.visitMemberReference(tree, none);
        }
    }
}
