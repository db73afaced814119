import com.sun.source.tree.ClassTree;
import com.sun.source.tree.CompilationUnitTree;
import com.sun.source.tree.LineMap;
import com.sun.source.tree.MethodInvocationTree;
import com.sun.source.tree.MethodTree;
import com.sun.source.tree.Tree;
import com.sun.source.tree.Tree.Kind;
import com.sun.source.util.JavacTask;
import com.sun.source.util.TreePathScanner;
import com.sun.source.util.Trees;
import java.io.File;
import java.util.ArrayList;
import java.util.LinkedHashMap;
import java.util.LinkedHashSet;
import java.util.List;
import java.util.Map;
import java.util.Set;
import java.util.TreeSet;
import javax.lang.model.element.Element;
import javax.lang.model.element.Modifier;
import javax.tools.JavaCompiler;
import javax.tools.StandardJavaFileManager;
import javax.tools.ToolProvider;

/** What can be counted of LANGUAGE.md: the face, what may not stand in the file, lengths, depths. */
public final class LanguageTest {
    private static final Due DUE = new Due("LanguageTest");
    private static final String FACE = "feed/2 net/0 fault/0 told/1 ways/1 man/2 law/1 slip/2 move/2 drift/1 begin/0"
        + " tried/3 pays/2 safe/2 answer/2 bounds/2 share/3 duel/3 lot/5 stand/3 written/2 game/2 log/2 clear/0"
        + " judge/0 replayed/2 promise/4 kept/1 seed/1 keep/1 goBack/1";
    private static final Set<Kind> BANNED = Set.of(Kind.THROW, Kind.TRY, Kind.CATCH, Kind.SYNCHRONIZED, Kind.ASSERT,
        Kind.LAMBDA_EXPRESSION, Kind.MEMBER_REFERENCE, Kind.IMPORT, Kind.PACKAGE, Kind.DOUBLE_LITERAL, Kind.FLOAT_LITERAL);

    private final Map<Element, Set<Element>> calls = new LinkedHashMap<>();
    private final List<String> faults = new ArrayList<>();
    private final Set<String> face = new TreeSet<>();
    private final Set<String> inside = new TreeSet<>();
    private int classes;

    public static void main(String[] args) throws Exception {
        LanguageTest test = new LanguageTest();
        test.read(new File(args[0]));
        for (Element method : test.calls.keySet()) {
            int depth = test.depth(method, new LinkedHashSet<>());
            DUE.is("calls that are open at once from " + method + ": at most eight", depth <= 8 ? 0 : depth, 0);
        }
        DUE.is("at most twelve classes", test.classes <= 12 ? 0 : test.classes, 0);
        DUE.is("the face " + test.face, test.face.equals(new TreeSet<>(List.of(FACE.split(" ")))) ? 1 : 0, 1);
        for (String name : test.face) {
            DUE.is("a private method is called " + name, test.inside.contains(name.split("/")[0]) ? 1 : 0, 0);
        }
        for (String fault : test.faults) {
            DUE.is(fault, 1, 0);
        }
        DUE.end();
    }

    private int depth(Element method, Set<Element> open) {
        if (!open.add(method)) {
            faults.add("calls itself: " + method);
            return 1;
        }
        int most = 0;
        for (Element called : calls.getOrDefault(method, Set.of())) {
            most = Math.max(most, calls.containsKey(called) ? depth(called, open) : 0);
        }
        open.remove(method);
        return most + 1;
    }

    private void read(File source) throws Exception {
        JavaCompiler compiler = ToolProvider.getSystemJavaCompiler();
        try (StandardJavaFileManager files = compiler.getStandardFileManager(null, null, null)) {
            JavacTask task = (JavacTask) compiler.getTask(null, files, null, List.of("-proc:none"), null,
                files.getJavaFileObjects(source));
            Iterable<? extends CompilationUnitTree> units = task.parse();
            task.analyze();
            for (CompilationUnitTree unit : units) {
                new Scan(Trees.instance(task), unit).scan(unit, null);
            }
        }
    }

    private final class Scan extends TreePathScanner<Void, Void> {
        private final Trees trees;
        private final CompilationUnitTree unit;
        private Element method;

        Scan(Trees trees, CompilationUnitTree unit) {
            this.trees = trees;
            this.unit = unit;
        }

        private int lines(Tree tree) {
            LineMap map = unit.getLineMap();
            long from = trees.getSourcePositions().getStartPosition(unit, tree);
            long to = trees.getSourcePositions().getEndPosition(unit, tree);
            return (int) (map.getLineNumber(to) - map.getLineNumber(from)) + 1;
        }

        @Override
        public Void scan(Tree tree, Void none) {
            if (tree != null && BANNED.contains(tree.getKind())) {
                faults.add("may not stand here: " + tree);
            }
            return super.scan(tree, none);
        }

        @Override
        public Void visitClass(ClassTree tree, Void none) {
            classes++;
            boolean top = getCurrentPath().getParentPath().getLeaf() == unit;
            if (!top && !tree.getModifiers().getFlags().contains(Modifier.STATIC)) {
                faults.add("a class inside is not static: " + tree.getSimpleName());
            }
            int fields = 0;
            for (Tree member : tree.getMembers()) {
                if (member instanceof com.sun.source.tree.VariableTree field) {
                    Set<Modifier> flags = field.getModifiers().getFlags();
                    boolean constant = flags.contains(Modifier.STATIC);
                    fields += constant ? 0 : 1;
                    if (constant && !flags.contains(Modifier.FINAL)) {
                        faults.add("static, not final: " + field);
                    }
                    if (top && !flags.contains(Modifier.PRIVATE) && !flags.contains(Modifier.PUBLIC)) {
                        faults.add("neither private nor of the face: " + field);
                    }
                }
            }
            if (fields > 20) {
                faults.add(fields + " fields: " + tree.getSimpleName());
            }
            return super.visitClass(tree, none);
        }

        @Override
        public Void visitMethod(MethodTree tree, Void none) {
            method = trees.getElement(getCurrentPath());
            calls.putIfAbsent(method, new LinkedHashSet<>());
            Set<Modifier> flags = tree.getModifiers().getFlags();
            String name = tree.getName().toString();
            if (flags.contains(Modifier.PUBLIC)) {
                if (!name.equals("<init>")) {
                    face.add(name + "/" + tree.getParameters().size());
                }
            } else {
                inside.add(name);
            }
            if (tree.getParameters().size() > 7 || lines(tree) > 60) {
                faults.add("too long: " + name + ", " + tree.getParameters().size() + " parameters, " + lines(tree) + " lines");
            }
            return super.visitMethod(tree, none);
        }

        @Override
        public Void visitMethodInvocation(MethodInvocationTree tree, Void none) {
            Element called = trees.getElement(getCurrentPath());
            if (method != null && called != null) {
                calls.get(method).add(called);
                String owner = called.getEnclosingElement().toString();
                if (!owner.startsWith("BothWrite") && !Set.of("java.lang.Math", "java.lang.Integer", "java.lang.String",
                        "java.lang.Object").contains(owner)) {
                    faults.add("a call of the library: " + called);
                }
            }
            return super.visitMethodInvocation(tree, none);
        }
    }
}
