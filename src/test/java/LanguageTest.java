import com.sun.source.tree.BinaryTree;
import com.sun.source.tree.BlockTree;
import com.sun.source.tree.ClassTree;
import com.sun.source.tree.CompilationUnitTree;
import com.sun.source.tree.CompoundAssignmentTree;
import com.sun.source.tree.ImportTree;
import com.sun.source.tree.LineMap;
import com.sun.source.tree.LiteralTree;
import com.sun.source.tree.MethodInvocationTree;
import com.sun.source.tree.MethodTree;
import com.sun.source.tree.NewClassTree;
import com.sun.source.tree.Tree;
import com.sun.source.tree.Tree.Kind;
import com.sun.source.tree.VariableTree;
import com.sun.source.util.JavacTask;
import com.sun.source.util.TreePath;
import com.sun.source.util.TreePathScanner;
import com.sun.source.util.Trees;
import java.io.File;
import java.util.ArrayList;
import java.util.LinkedHashMap;
import java.util.LinkedHashSet;
import java.util.List;
import java.util.Map;
import java.util.Set;
import java.util.TreeSet;
import javax.lang.model.element.Element;
import javax.lang.model.element.Modifier;
import javax.lang.model.type.ArrayType;
import javax.lang.model.type.TypeMirror;
import javax.tools.JavaCompiler;
import javax.tools.StandardJavaFileManager;
import javax.tools.ToolProvider;

/** What can be counted of LANGUAGE.md, rule by rule, in the file that is named to it. */
public final class LanguageTest {
    private static final Due DUE = new Due("LanguageTest");
    /** The document's face to the letter: what a method answers, its name, what it takes. */
    private static final Set<String> FACE = Set.of("<init>()", "int feed(int,long)", "int net()", "int fault()",
        "int told(int)", "int ways(int)", "int man(int,int)", "int law(int)", "int slip(int,int)", "int move(int,int)",
        "int drift(int)", "int begin()", "int tried(int,int,int)", "int pays(int,int)", "int safe(int,int)",
        "int answer(int,int)", "int bounds(int,int)", "int share(int,int,int)", "int duel(int,int,int)",
        "int lot(int,int,int,int,int)", "int stand(int,int,int)", "int written(int,int)", "int game(int,int)",
        "int log(int,int)", "int clear()", "int judge()", "int replayed(int,int)", "int promise(int,int,int,int)",
        "int kept(int)", "int seed(int)", "int keep(int)", "int goBack(int)");
    private static final Set<String> CONSTANTS = Set.of("NONE", "UNKNOWN", "OUTSIDE", "NOT", "FULL");
    private static final Set<Kind> NOT_AT_ALL = Set.of(Kind.THROW, Kind.TRY, Kind.CATCH, Kind.SYNCHRONIZED, Kind.ASSERT,
        Kind.LAMBDA_EXPRESSION, Kind.MEMBER_REFERENCE, Kind.PACKAGE);
    private static final Set<String> CALLS = Set.of("java.lang.String.length", "java.lang.String.charAt",
        "java.lang.String.isEmpty", "java.lang.String.equals", "java.lang.String.indexOf", "java.lang.String.substring",
        "java.lang.String.toCharArray", "java.lang.System.arraycopy", "java.util.Arrays.copyOf",
        "java.util.Arrays.copyOfRange", "java.util.Arrays.fill", "java.util.List.of");
    private static final Set<String> OWNERS = Set.of("java.lang.StringBuilder", "java.util.ArrayList", "java.util.List",
        "java.util.Iterator", "java.lang.Integer", "java.lang.Long", "java.lang.Math");
    private static final Set<String> TYPES = Set.of("java.lang.String", "java.lang.StringBuilder", "java.lang.Integer");

    private final Map<Element, Set<Element>> calls = new LinkedHashMap<>();
    private final List<String> faults = new ArrayList<>();
    private final Set<String> face = new TreeSet<>();
    private final Set<String> faceNames = new TreeSet<>();
    private final Set<String> constants = new TreeSet<>();
    private final Set<String> inside = new TreeSet<>();
    private int classes;

    public static void main(String[] args) throws Exception {
        LanguageTest test = new LanguageTest();
        test.read(new File(Due.source(args)));
        for (Element method : test.calls.keySet()) {
            int depth = test.depth(method, new LinkedHashSet<>());
            DUE.is("rule 11: calls that are open at once from " + method + ", eight at most", Math.max(depth, 8), 8);
        }
        DUE.is("rule 11: some twelve classes at most", Math.max(test.classes, 13), 13);
        DUE.is("rule 1: the face is " + test.face, test.face.equals(new TreeSet<>(FACE)) ? 1 : 0, 1);
        DUE.is("rule 1: the constants are " + test.constants, test.constants.equals(new TreeSet<>(CONSTANTS)) ? 1 : 0, 1);
        for (String name : test.faceNames) {
            DUE.is("rule 1: one more method is called " + name, test.inside.contains(name) ? 1 : 0, 0);
        }
        for (String fault : test.faults) {
            DUE.is(fault, 1, 0);
        }
        DUE.end();
    }

    /** Calls that are no recursion: a method that is open already is not counted again. */
    private int depth(Element method, Set<Element> open) {
        if (!open.add(method)) {
            return 0;
        }
        int most = 0;
        for (Element called : calls.getOrDefault(method, Set.of())) {
            most = Math.max(most, calls.containsKey(called) ? depth(called, open) : 0);
        }
        open.remove(method);
        return most + 1;
    }

    private void read(File source) throws Exception {
        JavaCompiler compiler = ToolProvider.getSystemJavaCompiler();
        try (StandardJavaFileManager files = compiler.getStandardFileManager(null, null, null)) {
            JavacTask task = (JavacTask) compiler.getTask(null, files, null, List.of("-proc:none"), null,
                files.getJavaFileObjects(source));
            Iterable<? extends CompilationUnitTree> units = task.parse();
            task.analyze();
            for (CompilationUnitTree unit : units) {
                DUE.is("rule 1: one class in the file", unit.getTypeDecls().size(), 1);
                new Scan(Trees.instance(task), unit).scan(unit, null);
            }
        }
    }

    private final class Scan extends TreePathScanner<Void, Void> {
        private final Trees trees;
        private final CompilationUnitTree unit;
        private Element method;

        Scan(Trees trees, CompilationUnitTree unit) {
            this.trees = trees;
            this.unit = unit;
        }

        private void fault(int rule, String what) {
            faults.add("rule " + rule + ": " + what);
        }

        private int lines(Tree tree) {
            LineMap map = unit.getLineMap();
            long from = trees.getSourcePositions().getStartPosition(unit, tree);
            long to = trees.getSourcePositions().getEndPosition(unit, tree);
            return (int) (map.getLineNumber(to) - map.getLineNumber(from)) + 1;
        }

        private TypeMirror typeOf(Tree tree) {
            return trees.getTypeMirror(new TreePath(getCurrentPath(), tree));
        }

        @Override
        public Void scan(Tree tree, Void none) {
            if (tree != null && NOT_AT_ALL.contains(tree.getKind())) {
                fault(6, "it may not stand here: " + tree);
            }
            return super.scan(tree, none);
        }

        @Override
        public Void visitImport(ImportTree tree, Void none) {
            if (tree.isStatic() || !tree.getQualifiedIdentifier().toString().startsWith("java.util.")) {
                fault(4, "" + tree);
            }
            return super.visitImport(tree, none);
        }

        @Override
        public Void visitClass(ClassTree tree, Void none) {
            classes++;
            Set<Modifier> flags = tree.getModifiers().getFlags();
            Tree parent = getCurrentPath().getParentPath().getLeaf();
            boolean top = parent == unit;
            if (top && !flags.containsAll(Set.of(Modifier.PUBLIC, Modifier.FINAL))) {
                fault(1, "the class is not public and final");
            }
            if (!top && !(parent instanceof ClassTree)) {
                fault(2, "a local or anonymous class: " + tree.getSimpleName());
            }
            boolean isStatic = flags.contains(Modifier.STATIC) || tree.getKind() != Kind.CLASS;
            if (!top && (!isStatic || flags.contains(Modifier.PUBLIC) || flags.contains(Modifier.PROTECTED))) {
                fault(1, "a class inside that is not static, or not private: " + tree.getSimpleName());
            }
            int fields = 0;
            for (Tree member : tree.getMembers()) {
                if (member instanceof VariableTree field) {
                    fields += field(field, top);
                }
                if (member instanceof BlockTree block && block.isStatic()) {
                    fault(5, "a static initialiser block");
                }
            }
            if (fields > 22) {
                fault(11, fields + " fields: " + tree.getSimpleName());
            }
            return super.visitClass(tree, none);
        }

        /** 1 for a field that is no constant. */
        private int field(VariableTree field, boolean top) {
            Set<Modifier> flags = field.getModifiers().getFlags();
            boolean constant = flags.contains(Modifier.STATIC);
            if (constant && !flags.contains(Modifier.FINAL)) {
                fault(5, "static, not final: " + field);
            }
            if (top && flags.contains(Modifier.PUBLIC)) {
                constants.add(field.getName().toString());
            } else if (top && !flags.contains(Modifier.PRIVATE)) {
                fault(1, "neither private nor of the face: " + field);
            }
            return constant ? 0 : 1;
        }

        @Override
        public Void visitMethod(MethodTree tree, Void none) {
            method = trees.getElement(getCurrentPath());
            calls.putIfAbsent(method, new LinkedHashSet<>());
            Set<Modifier> flags = tree.getModifiers().getFlags();
            String name = tree.getName().toString();
            boolean top = getCurrentPath().getParentPath().getParentPath().getLeaf() == unit;
            boolean isNew = name.equals("<init>");
            if (top && flags.contains(Modifier.PUBLIC)) {
                face.add(signature(tree, flags));
                faceNames.add(name);
            } else if (!isNew) {
                inside.add(name);
            }
            if (top && !flags.contains(Modifier.PUBLIC) && !flags.contains(Modifier.PRIVATE)) {
                fault(1, "neither private nor of the face: " + name);
            }
            if (Set.of("equals", "hashCode", "toString").contains(name)) {
                fault(6, "a method of this name: " + name);
            }
            if (tree.getParameters().size() > 7 || lines(tree) > 66) {
                fault(11, name + " has " + tree.getParameters().size() + " parameters, " + lines(tree) + " lines");
            }
            return super.visitMethod(tree, none);
        }

        /** As the document writes it, without the names of what it takes, and without public. */
        private String signature(MethodTree tree, Set<Modifier> flags) {
            StringBuilder text = new StringBuilder();
            for (Modifier flag : flags) {
                text.append(flag == Modifier.PUBLIC ? "" : flag + " ");
            }
            text.append(tree.getReturnType() == null ? "" : tree.getReturnType() + " ").append(tree.getName()).append('(');
            for (VariableTree taken : tree.getParameters()) {
                text.append(text.charAt(text.length() - 1) == '(' ? "" : ",").append(taken.getType());
            }
            return text.append(')').toString();
        }

        @Override
        public Void visitVariable(VariableTree tree, Void none) {
            Element variable = trees.getElement(getCurrentPath());
            if (variable != null && !mayBe(variable.asType(), 0)) {
                fault(3, "of this type: " + tree);
            }
            return super.visitVariable(tree, none);
        }

        private boolean mayBe(TypeMirror type, int rows) {
            if (type instanceof ArrayType array) {
                return rows < 2 && mayBe(array.getComponentType(), rows + 1);
            }
            String name = type.toString();
            boolean own = name.startsWith("BothWrite") || type.getKind() == javax.lang.model.type.TypeKind.TYPEVAR;
            return type.getKind().isPrimitive() || rows < 2 && (own || TYPES.contains(name)
                || name.startsWith("java.util.List<") || name.startsWith("java.util.ArrayList<"));
        }

        @Override
        public Void visitMethodInvocation(MethodInvocationTree tree, Void none) {
            Element called = trees.getElement(getCurrentPath());
            if (method != null && called != null) {
                calls.get(method).add(called);
                String owner = called.getEnclosingElement().toString();
                String name = called.getSimpleName().toString();
                boolean own = owner.startsWith("BothWrite") || name.equals("<init>") || owner.equals("Array") && name.equals("clone");
                boolean listed = CALLS.contains(owner + "." + name) || OWNERS.contains(owner) && !name.endsWith("Exact");
                if (!own && !listed) {
                    fault(4, "a call of the library: " + owner + "." + name);
                }
            }
            return super.visitMethodInvocation(tree, none);
        }

        @Override
        public Void visitNewClass(NewClassTree tree, Void none) {
            if (tree.getClassBody() != null) {
                fault(2, "an anonymous class: " + tree);
            }
            return super.visitNewClass(tree, none);
        }

        @Override
        public Void visitBinary(BinaryTree tree, Void none) {
            boolean texts = isText(typeOf(tree.getLeftOperand())) || isText(typeOf(tree.getRightOperand()));
            if (texts && tree.getKind() == Kind.PLUS) {
                fault(10, "texts joined by +: " + tree);
            }
            if (texts && (tree.getKind() == Kind.EQUAL_TO || tree.getKind() == Kind.NOT_EQUAL_TO)
                    && tree.getRightOperand().getKind() != Kind.NULL_LITERAL) {
                fault(6, "texts laid side by side by == or !=: " + tree);
            }
            return super.visitBinary(tree, none);
        }

        @Override
        public Void visitCompoundAssignment(CompoundAssignmentTree tree, Void none) {
            if (isText(typeOf(tree.getVariable()))) {
                fault(10, "texts joined by +=: " + tree);
            }
            return super.visitCompoundAssignment(tree, none);
        }

        private boolean isText(TypeMirror type) {
            return type != null && type.toString().equals("java.lang.String");
        }

        @Override
        public Void visitLiteral(LiteralTree tree, Void none) {
            String signs = tree.getValue() == null ? "" : tree.getValue().toString();
            for (int i = 0; i < signs.length(); i++) {
                if (signs.charAt(i) < 1 || signs.charAt(i) > 127) {
                    fault(4, "a sign of a constant that is not 1 to 127: " + tree);
                }
            }
            return super.visitLiteral(tree, none);
        }
    }
}
