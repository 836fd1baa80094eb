import com.sun.source.tree.*;
import com.sun.source.util.JavacTask;
import com.sun.source.util.TreePath;
import com.sun.source.util.TreePathScanner;
import com.sun.source.util.Trees;
import java.io.File;
import java.io.IOException;
import java.util.ArrayList;
import java.util.EnumSet;
import java.util.HashMap;
import java.util.HashSet;
import java.util.List;
import java.util.Map;
import java.util.Set;
import java.util.TreeMap;
import java.util.TreeSet;
import javax.lang.model.element.Element;
import javax.lang.model.element.ExecutableElement;
import javax.lang.model.element.Modifier;
import javax.lang.model.element.TypeElement;
import javax.tools.JavaCompiler;
import javax.tools.StandardJavaFileManager;
import javax.tools.ToolProvider;

/** LANGUAGE.md, as far as the compiler's own tree of the class shows it. */
public final class LanguageTest {
    /** Rule 4: those of the library that the class may call and that it does call. */
    private static final Set<String> LIBRARY = Set.of("java.lang.String.length", "java.lang.String.charAt",
        "java.lang.Math.max", "java.lang.Math.min", "java.lang.Math.abs", "java.lang.Long.bitCount",
        "java.lang.Integer.bitCount", "java.lang.System.arraycopy", "java.util.Arrays.copyOf", "java.util.Arrays.fill",
        "java.lang.Object.<init>");
    /** Rule 3: types that may stand in the source, beside arrays of one dimension of them and own classes. */
    private static final Set<String> TYPES = Set.of("int", "long", "boolean", "String", "void");
    /** Rules 2, 6: what may not stand in the source. */
    private static final Set<Tree.Kind> BANNED = EnumSet.of(Tree.Kind.THROW, Tree.Kind.TRY, Tree.Kind.CATCH,
        Tree.Kind.SYNCHRONIZED, Tree.Kind.ASSERT, Tree.Kind.LAMBDA_EXPRESSION, Tree.Kind.MEMBER_REFERENCE,
        Tree.Kind.TYPE_CAST, Tree.Kind.INSTANCE_OF, Tree.Kind.DOUBLE_LITERAL, Tree.Kind.FLOAT_LITERAL,
        Tree.Kind.ANNOTATION, Tree.Kind.PACKAGE);
    private static final int DEEPEST = 8;

    private static int wrong = 0;

    public static void main(String[] args) throws IOException {
        JavaCompiler compiler = ToolProvider.getSystemJavaCompiler();
        if (compiler == null) {
            System.out.println("this java has no compiler within it: nothing was asked");
            return;
        }
        try (StandardJavaFileManager files = compiler.getStandardFileManager(null, null, null)) {
            JavacTask task = (JavacTask) compiler.getTask(null, files, null, List.of("-proc:none"), null,
                files.getJavaFileObjects(new File("src/main/java/RedGlass.java")));
            CompilationUnitTree unit = task.parse().iterator().next();
            task.analyze();
            Source source = new Source(Trees.instance(task), unit);
            source.scan(unit, null);
            source.classes();
            source.depth();
        }
        System.out.println(wrong == 0 ? "the class keeps to the language" : wrong + " things are outside the language");
        if (wrong != 0) {
            System.exit(1);
        }
    }

    private static void must(boolean is, String what) {
        if (!is) {
            wrong++;
            System.out.println("not so: " + what);
        }
    }

    /** Goes through the tree once and keeps who calls whom. */
    private static final class Source extends TreePathScanner<Void, Void> {
        private final Trees trees;
        private final CompilationUnitTree unit;
        private final Map<String, Set<String>> calls = new TreeMap<>();
        private final Map<String, Integer> fields = new TreeMap<>();
        private final Map<String, Integer> depths = new HashMap<>();
        private String method = "";

        Source(Trees trees, CompilationUnitTree unit) {
            this.trees = trees;
            this.unit = unit;
        }

        @Override
        public Void scan(Tree tree, Void none) {
            boolean isCastOfNumber = tree instanceof TypeCastTree c && c.getType() instanceof PrimitiveTypeTree;
            must(tree == null || isCastOfNumber || !BANNED.contains(tree.getKind()), "rules 2, 6: no " + tree);
            return super.scan(tree, none);
        }

        @Override
        public Void visitClass(ClassTree tree, Void none) {
            String name = tree.getSimpleName().toString();
            Set<Modifier> flags = tree.getModifiers().getFlags();
            boolean isInside = getCurrentPath().getParentPath().getLeaf() instanceof ClassTree;
            must(!name.isEmpty() && (isInside || name.equals("RedGlass")), "rule 2: no class without a name or in a method");
            must(!isInside || flags.contains(Modifier.STATIC), "rule 2: " + name + " is static");
            must(!isInside || !flags.contains(Modifier.PUBLIC), "rule 1: " + name + " is not public");
            fields.put(name, 0);
            for (Tree member : tree.getMembers()) {
                must(member.getKind() != Tree.Kind.BLOCK, "rule 5: no initialiser block in " + name);
                if (member instanceof VariableTree field) {
                    field(name, field);
                }
            }
            String before = method;
            method = ((TypeElement) trees.getElement(getCurrentPath())).getQualifiedName() + ".<init>";
            super.visitClass(tree, none);
            method = before;
            return null;
        }

        private void field(String name, VariableTree field) {
            Set<Modifier> flags = field.getModifiers().getFlags();
            if (!flags.contains(Modifier.STATIC)) {
                fields.merge(name, 1, Integer::sum);
                return;
            }
            must(flags.contains(Modifier.FINAL), "rule 5: " + field + " is final");
            must(field.getInitializer() != null && !field.getInitializer().toString().contains("("),
                "rule 5: " + field + " is written out");
        }

        @Override
        public Void visitMethod(MethodTree tree, Void none) {
            String before = method;
            method = nameOf((ExecutableElement) trees.getElement(getCurrentPath()));
            calls.putIfAbsent(method, new TreeSet<>());
            must(tree.getParameters().size() <= 7, "rule 11: at most seven parameters for " + method);
            must(linesOf(tree) <= 60, "rule 11: " + method + " is short");
            must(tree.getThrows().isEmpty(), "rule 6: " + method + " throws nothing");
            if (tree.getReturnType() != null) {
                type(tree.getReturnType());
            }
            super.visitMethod(tree, none);
            method = before;
            return null;
        }

        private long linesOf(Tree tree) {
            LineMap lines = unit.getLineMap();
            long start = trees.getSourcePositions().getStartPosition(unit, tree);
            long end = trees.getSourcePositions().getEndPosition(unit, tree);
            return end < 0 || start < 0 ? 0 : lines.getLineNumber(end) - lines.getLineNumber(start) + 1;
        }

        @Override
        public Void visitMethodInvocation(MethodInvocationTree tree, Void none) {
            called(new TreePath(getCurrentPath(), tree.getMethodSelect()));
            return super.visitMethodInvocation(tree, none);
        }

        @Override
        public Void visitNewClass(NewClassTree tree, Void none) {
            called(getCurrentPath());
            return super.visitNewClass(tree, none);
        }

        private void called(TreePath path) {
            Element element = trees.getElement(path);
            if (element instanceof ExecutableElement e) {
                String name = nameOf(e);
                must(name.startsWith("RedGlass") || LIBRARY.contains(name), "rule 4: " + name + " is of the library told");
                calls.computeIfAbsent(method, m -> new TreeSet<>()).add(name);
            } else {
                must(false, "rule 4: what " + path.getLeaf() + " calls");
            }
        }

        private static String nameOf(ExecutableElement e) {
            return ((TypeElement) e.getEnclosingElement()).getQualifiedName() + "." + e.getSimpleName();
        }

        @Override
        public Void visitVariable(VariableTree tree, Void none) {
            type(tree.getType());
            return super.visitVariable(tree, none);
        }

        private void type(Tree tree) {
            String type = tree.toString();
            boolean isRow = type.endsWith("[]");
            String plain = isRow ? type.substring(0, type.length() - 2) : type;
            boolean isNoRow = plain.equals("String") || plain.equals("void");
            must((TYPES.contains(plain) || isOwn(plain)) && !(isRow && isNoRow), "rule 3: the type " + type);
        }

        private boolean isOwn(String type) {
            for (Tree member : ((ClassTree) unit.getTypeDecls().get(0)).getMembers()) {
                if (member instanceof ClassTree c && c.getSimpleName().contentEquals(type)) {
                    return true;
                }
            }
            return false;
        }

        @Override
        public Void visitImport(ImportTree tree, Void none) {
            must(tree.getQualifiedIdentifier().toString().equals("java.util.Arrays"), "rule 4: " + tree);
            return super.visitImport(tree, none);
        }

        @Override
        public Void visitBinary(BinaryTree tree, Void none) {
            boolean isText = trees.getTypeMirror(getCurrentPath()).toString().equals("java.lang.String");
            must(!isText, "rule 10: no texts joined by +: " + tree);
            return super.visitBinary(tree, none);
        }

        void classes() {
            must(unit.getTypeDecls().size() == 1, "rule 1: one class in the file");
            must(fields.size() <= 12, "rule 11: at most some twelve classes, not " + fields.size());
            fields.forEach((name, count) -> must(count <= 20, "rule 11: " + name + " has some twenty fields at most"));
        }

        /** Rule 11: methods that call one another in a circle (rule 8) count as one. */
        void depth() {
            List<String> circles = new ArrayList<>();
            for (String name : calls.keySet()) {
                int deep = deepFrom(name);
                must(deep <= DEEPEST, "rule 11: calls from " + name + " go " + deep + " deep");
                if (reachable(name).contains(name)) {
                    circles.add(name.substring(name.lastIndexOf('.') + 1));
                }
            }
            must(circles.equals(List.of("readBoth", "readPart", "readPlain", "readRoundBracket", "readSum", "readTerm",
                "readTest")), "rule 8: only what carries its depth calls itself, not " + circles);
        }

        private int deepFrom(String name) {
            Integer known = depths.get(name);
            if (known != null) {
                return known;
            }
            int deepest = 0;
            Set<String> circle = circleOf(name);
            for (String one : circle) {
                for (String next : calls.getOrDefault(one, Set.of())) {
                    deepest = circle.contains(next) ? deepest : Math.max(deepest, deepFrom(next));
                }
            }
            depths.put(name, deepest + 1);
            return deepest + 1;
        }

        private Set<String> circleOf(String name) {
            Set<String> circle = new HashSet<>(Set.of(name));
            for (String other : reachable(name)) {
                if (reachable(other).contains(name)) {
                    circle.add(other);
                }
            }
            return circle;
        }

        private Set<String> reachable(String name) {
            Set<String> found = new HashSet<>();
            List<String> open = new ArrayList<>(List.of(name));
            while (!open.isEmpty()) {
                for (String next : calls.getOrDefault(open.remove(open.size() - 1), Set.of())) {
                    if (found.add(next)) {
                        open.add(next);
                    }
                }
            }
            return found;
        }
    }
}
