import com.sun.source.tree.ClassTree;
import com.sun.source.tree.CompilationUnitTree;
import com.sun.source.tree.MethodInvocationTree;
import com.sun.source.tree.MethodTree;
import com.sun.source.tree.NewArrayTree;
import com.sun.source.tree.NewClassTree;
import com.sun.source.tree.Tree;
import com.sun.source.tree.VariableTree;
import com.sun.source.util.JavacTask;
import com.sun.source.util.TreePath;
import com.sun.source.util.TreePathScanner;
import com.sun.source.util.Trees;
import java.io.File;
import java.util.ArrayList;
import java.util.EnumSet;
import java.util.List;
import java.util.Map;
import java.util.Set;
import java.util.TreeMap;
import java.util.TreeSet;
import javax.lang.model.element.Element;
import javax.lang.model.element.ElementKind;
import javax.tools.JavaCompiler;
import javax.tools.StandardJavaFileManager;
import javax.tools.ToolProvider;

/**
 * What LANGUAGE.md says of calls, looked at in the tree that javac makes of the program: which calls of the library
 * there are, how deep calls go, that none comes back to itself, and that objects are made by constructors alone.
 */
public final class CallsTest {
    private static final String PROGRAM = "src/main/java/SpeedWarden.java";
    private static final int DEEPEST = 8;
    private static final Set<String> LIBRARY = Set.of("java.lang.Math.max(int,int)", "java.lang.Math.min(int,int)",
        "java.lang.System.arraycopy(java.lang.Object,int,java.lang.Object,int,int)", "java.lang.String.length()",
        "java.lang.String.charAt(int)");
    private static final Set<Tree.Kind> RULED_OUT = EnumSet.of(Tree.Kind.THROW, Tree.Kind.TRY, Tree.Kind.CATCH,
        Tree.Kind.SYNCHRONIZED, Tree.Kind.ASSERT, Tree.Kind.LAMBDA_EXPRESSION, Tree.Kind.MEMBER_REFERENCE,
        Tree.Kind.IMPORT, Tree.Kind.ANNOTATION, Tree.Kind.TYPE_CAST);

    /** Method to the methods that it calls; a constructor's calls hold those of its class's field initialisers, too. */
    private static final Map<String, Set<String>> calls = new TreeMap<>();
    private static int wrong = 0;

    private static void fails(String rule) {
        wrong++;
        System.out.println("broken: " + rule);
    }

    private static final class Reader extends TreePathScanner<Void, Void> {
        private final Trees trees;
        private String owner = "";
        private boolean making = false;

        Reader(Trees trees) {
            this.trees = trees;
        }

        private String nameOf(Element method) {
            return method.getEnclosingElement() + "." + method;
        }

        @Override
        public Void scan(Tree tree, Void none) {
            if (tree != null && RULED_OUT.contains(tree.getKind())) {
                fails("2, 4, 6: " + tree.getKind() + " in " + owner + ": " + tree);
            }
            return super.scan(tree, none);
        }

        @Override
        public Void visitMethod(MethodTree tree, Void none) {
            Element method = trees.getElement(getCurrentPath());
            owner = nameOf(method);
            making = method.getKind() == ElementKind.CONSTRUCTOR;
            calls.computeIfAbsent(owner, k -> new TreeSet<>());
            super.visitMethod(tree, none);
            making = false;
            return null;
        }

        @Override
        public Void visitVariable(VariableTree tree, Void none) {
            TreePath outer = getCurrentPath().getParentPath();
            if (!(outer.getLeaf() instanceof ClassTree)) {
                return super.visitVariable(tree, none);
            }
            Element made = trees.getElement(outer);
            for (Element member : made.getEnclosedElements()) {
                if (member.getKind() == ElementKind.CONSTRUCTOR) {
                    owner = nameOf(member);
                    calls.computeIfAbsent(owner, k -> new TreeSet<>());
                }
            }
            making = true;
            super.visitVariable(tree, none);
            making = false;
            return null;
        }

        @Override
        public Void visitMethodInvocation(MethodInvocationTree tree, Void none) {
            calls.get(owner).add(nameOf(trees.getElement(getCurrentPath())));
            return super.visitMethodInvocation(tree, none);
        }

        @Override
        public Void visitNewClass(NewClassTree tree, Void none) {
            calls.get(owner).add(nameOf(trees.getElement(getCurrentPath())));
            makes(tree);
            return super.visitNewClass(tree, none);
        }

        @Override
        public Void visitNewArray(NewArrayTree tree, Void none) {
            makes(tree);
            return super.visitNewArray(tree, none);
        }

        private void makes(Tree tree) {
            if (!making) {
                fails("12: " + owner + " makes an object: " + tree);
            }
        }
    }

    private static void reads() throws Exception {
        JavaCompiler javac = ToolProvider.getSystemJavaCompiler();
        try (StandardJavaFileManager files = javac.getStandardFileManager(null, null, null)) {
            JavacTask task = (JavacTask) javac.getTask(null, files, null, List.of("--release", "17", "-proc:none"), null,
                files.getJavaFileObjects(new File(PROGRAM)));
            List<CompilationUnitTree> units = new ArrayList<>();
            task.parse().forEach(units::add);
            task.analyze();
            Reader reader = new Reader(Trees.instance(task));
            for (CompilationUnitTree unit : units) {
                reader.scan(unit, null);
            }
        }
    }

    /** The longest chain of calls from a method on, itself the first; open holds those that have not come back. */
    private static List<String> deepest(String method, List<String> open) {
        if (open.contains(method)) {
            fails("8: recursion without a guard: " + open + " " + method);
            return List.of();
        }
        open.add(method);
        List<String> chain = new ArrayList<>();
        for (String called : calls.getOrDefault(method, Set.of())) {
            List<String> below = deepest(called, open);
            if (below.size() > chain.size()) {
                chain = below;
            }
        }
        open.remove(method);
        List<String> whole = new ArrayList<>(List.of(method));
        whole.addAll(chain);
        return whole;
    }

    public static void main(String[] args) throws Exception {
        reads();
        int depth = 0;
        int library = 0;
        for (String method : calls.keySet()) {
            List<String> chain = deepest(method, new ArrayList<>());
            depth = Math.max(depth, chain.size());
            if (chain.size() > DEEPEST) {
                fails("11: " + chain.size() + " calls deep: " + chain);
            }
            for (String called : calls.get(method)) {
                boolean own = called.startsWith("SpeedWarden.");
                boolean first = called.equals("java.lang.Object.Object()");
                if (!own && !first && !LIBRARY.contains(called)) {
                    fails("4: " + method + " calls " + called);
                }
                library += own ? 0 : 1;
            }
        }
        System.out.println(calls.size() + " methods, " + library + " calls of the library, " + depth + " calls deep, "
            + wrong + " rules broken");
        if (wrong != 0 || calls.isEmpty() || library == 0) {
            System.exit(1);
        }
    }
}
