import com.sun.source.tree.AssertTree;
import com.sun.source.tree.CatchTree;
import com.sun.source.tree.ClassTree;
import com.sun.source.tree.CompilationUnitTree;
import com.sun.source.tree.DoWhileLoopTree;
import com.sun.source.tree.ForLoopTree;
import com.sun.source.tree.LambdaExpressionTree;
import com.sun.source.tree.MemberReferenceTree;
import com.sun.source.tree.MethodInvocationTree;
import com.sun.source.tree.MethodTree;
import com.sun.source.tree.NewClassTree;
import com.sun.source.tree.ThrowTree;
import com.sun.source.tree.Tree;
import com.sun.source.tree.VariableTree;
import com.sun.source.tree.WhileLoopTree;
import com.sun.source.util.JavacTask;
import com.sun.source.util.SourcePositions;
import com.sun.source.util.TreePathScanner;
import com.sun.source.util.Trees;
import java.io.File;
import java.util.ArrayDeque;
import java.util.Deque;
import java.util.HashMap;
import java.util.LinkedHashMap;
import java.util.LinkedHashSet;
import java.util.List;
import java.util.Map;
import java.util.Set;
import java.util.TreeSet;
import javax.lang.model.element.Element;
import javax.lang.model.element.ElementKind;
import javax.lang.model.element.Modifier;
import javax.lang.model.type.ArrayType;
import javax.lang.model.type.TypeKind;
import javax.lang.model.type.TypeMirror;
import javax.tools.JavaCompiler;
import javax.tools.StandardJavaFileManager;
import javax.tools.ToolProvider;

/** The rules of LANGUAGE.md that javac's own tree of the class shows: what it calls, how deep, how long. */
public final class LanguageTest {
    private static final int MOST_PARAMETERS = 7;
    private static final int MOST_LINES = 60;
    private static final int MOST_CLASSES = 12;
    private static final int MOST_FIELDS = 20;
    // Rule 11 has eight; one less here, for whoever counts the caller of the face as the first.
    private static final int MOST_DEPTH = 7;
    private static final Set<String> LIBRARY = Set.of("java.util.Arrays.fill", "java.lang.Math.min",
        "java.lang.Math.max", "java.lang.Long.compare");

    private static int wrong = 0;

    private static void due(String what, boolean holds) {
        if (!holds) {
            wrong++;
            System.out.println("not so: " + what);
        }
    }

    /** Walks through the class once; what it meets is judged at once, but for the depth of calls. */
    private static final class Walk extends TreePathScanner<Void, Void> {
        private final Trees trees;
        private final SourcePositions positions;
        private final Map<Element, Set<Element>> calls = new LinkedHashMap<>();
        private final Map<Element, Set<Element>> ofFields = new LinkedHashMap<>();
        private final Deque<Element> methods = new ArrayDeque<>();
        private final Deque<Element> openClasses = new ArrayDeque<>();
        private final Set<String> publicNames = new TreeSet<>();
        private final Set<String> otherNames = new TreeSet<>();
        private CompilationUnitTree unit;
        private int classes = 0;

        Walk(Trees trees) {
            this.trees = trees;
            this.positions = trees.getSourcePositions();
        }

        private Element here() {
            return trees.getElement(getCurrentPath());
        }

        private long lines(Tree tree) {
            long first = unit.getLineMap().getLineNumber(positions.getStartPosition(unit, tree));
            return unit.getLineMap().getLineNumber(positions.getEndPosition(unit, tree)) - first + 1;
        }

        private static boolean ofTheFile(Element e) {
            for (Element at = e; at != null; at = at.getEnclosingElement()) {
                if (at.getSimpleName().contentEquals("SquareSums")) {
                    return true;
                }
            }
            return false;
        }

        @Override
        public Void visitCompilationUnit(CompilationUnitTree tree, Void none) {
            unit = tree;
            due("one class in the file, without a package", tree.getTypeDecls().size() == 1 && tree.getPackageName() == null);
            return super.visitCompilationUnit(tree, none);
        }

        @Override
        public Void visitClass(ClassTree tree, Void none) {
            classes++;
            long fields = 0;
            for (Tree member : tree.getMembers()) {
                due("no initialiser block in " + tree.getSimpleName(), member.getKind() != Tree.Kind.BLOCK);
                boolean field = member instanceof VariableTree;
                if (field && !((VariableTree) member).getModifiers().getFlags().contains(Modifier.STATIC)) {
                    fields++;
                }
            }
            due(tree.getSimpleName() + " has " + fields + " fields", fields <= MOST_FIELDS);
            openClasses.push(here());
            super.visitClass(tree, none);
            openClasses.pop();
            return null;
        }

        @Override
        public Void visitMethod(MethodTree tree, Void none) {
            Element method = here();
            calls.putIfAbsent(method, new LinkedHashSet<>());
            due(method + " has few parameters", tree.getParameters().size() <= MOST_PARAMETERS);
            due(method + " is short", lines(tree) <= MOST_LINES);
            if (tree.getReturnType() != null) {
                boolean isPublic = tree.getModifiers().getFlags().contains(Modifier.PUBLIC);
                (isPublic ? publicNames : otherNames).add(tree.getName().toString());
            }
            methods.push(method);
            super.visitMethod(tree, none);
            methods.pop();
            return null;
        }

        private void called(Element target) {
            if (!ofTheFile(target)) {
                String name = target.getEnclosingElement() + "." + target.getSimpleName();
                boolean ofObject = target.getKind() == ElementKind.CONSTRUCTOR && name.equals("java.lang.Object.<init>");
                due("of the library " + name + " is one that is listed", ofObject || LIBRARY.contains(name));
            } else if (!methods.isEmpty()) {
                calls.get(methods.peek()).add(target);
            } else {
                ofFields.computeIfAbsent(openClasses.peek(), c -> new LinkedHashSet<>()).add(target);
            }
        }

        /** What a method calls; a constructor also what its class's fields begin with. */
        Set<Element> callsOf(Element method) {
            Set<Element> all = new LinkedHashSet<>(calls.getOrDefault(method, Set.of()));
            if (method.getKind() == ElementKind.CONSTRUCTOR) {
                all.addAll(ofFields.getOrDefault(method.getEnclosingElement(), Set.of()));
            }
            return all;
        }

        @Override
        public Void visitMethodInvocation(MethodInvocationTree tree, Void none) {
            called(here());
            return super.visitMethodInvocation(tree, none);
        }

        @Override
        public Void visitNewClass(NewClassTree tree, Void none) {
            called(here());
            due("an object is made of a class of the file: " + tree, ofTheFile(here()));
            return super.visitNewClass(tree, none);
        }

        @Override
        public Void visitVariable(VariableTree tree, Void none) {
            Element variable = here();
            due("the type of " + variable, isAllowed(variable.asType()));
            Set<Modifier> flags = tree.getModifiers().getFlags();
            if (flags.contains(Modifier.STATIC)) {
                boolean number = variable.asType().getKind() == TypeKind.INT || variable.asType().getKind() == TypeKind.LONG;
                due("the static " + variable + " is a constant number", flags.contains(Modifier.FINAL) && number);
            }
            return super.visitVariable(tree, none);
        }

        private static boolean isAllowed(TypeMirror type) {
            if (type.getKind() == TypeKind.ARRAY) {
                TypeMirror of = ((ArrayType) type).getComponentType();
                return of.getKind() != TypeKind.ARRAY && isAllowed(of);
            }
            return type.getKind().isPrimitive() || type.toString().startsWith("SquareSums");
        }

        @Override
        public Void visitForLoop(ForLoopTree tree, Void none) {
            boolean counted = tree.getInitializer().size() == 1 && tree.getUpdate().size() == 1;
            due("a for loop has a counter and a bound: " + tree.getCondition(), counted && tree.getCondition() != null);
            return super.visitForLoop(tree, none);
        }

        @Override
        public Void visitWhileLoop(WhileLoopTree tree, Void none) {
            due("no loop without a counter: " + tree.getCondition(), false);
            return super.visitWhileLoop(tree, none);
        }

        @Override
        public Void visitDoWhileLoop(DoWhileLoopTree tree, Void none) {
            due("no loop without a counter: " + tree.getCondition(), false);
            return super.visitDoWhileLoop(tree, none);
        }

        @Override
        public Void visitLambdaExpression(LambdaExpressionTree tree, Void none) {
            due("no lambda", false);
            return super.visitLambdaExpression(tree, none);
        }

        @Override
        public Void visitMemberReference(MemberReferenceTree tree, Void none) {
            due("no method reference", false);
            return super.visitMemberReference(tree, none);
        }

        @Override
        public Void visitThrow(ThrowTree tree, Void none) {
            due("the document wants no exception", false);
            return super.visitThrow(tree, none);
        }

        @Override
        public Void visitCatch(CatchTree tree, Void none) {
            due("there is nothing to catch", false);
            return super.visitCatch(tree, none);
        }

        @Override
        public Void visitAssert(AssertTree tree, Void none) {
            due("no assert", false);
            return super.visitAssert(tree, none);
        }
    }

    /** How many calls stand open at most from this method on, itself counted; recursion is not to be found. */
    private static int depth(Element method, Walk walk, Map<Element, Integer> known, Deque<Element> open) {
        if (open.contains(method)) {
            due(method + " calls itself", false);
            return 0;
        }
        Integer before = known.get(method);
        if (before != null) {
            return before;
        }
        open.push(method);
        int deepest = 0;
        for (Element next : walk.callsOf(method)) {
            deepest = Math.max(deepest, depth(next, walk, known, open));
        }
        open.pop();
        known.put(method, deepest + 1);
        return deepest + 1;
    }

    private static void depths(Walk walk) {
        Map<Element, Integer> known = new HashMap<>();
        for (Element method : walk.calls.keySet()) {
            int deep = depth(method, walk, known, new ArrayDeque<>());
            due(method + " goes " + deep + " calls deep", deep <= MOST_DEPTH);
        }
    }

    public static void main(String[] args) throws Exception {
        JavaCompiler compiler = ToolProvider.getSystemJavaCompiler();
        try (StandardJavaFileManager files = compiler.getStandardFileManager(null, null, null)) {
            JavacTask task = (JavacTask) compiler.getTask(null, files, null, List.of("-proc:none"), null,
                files.getJavaFileObjects(new File(args[0])));
            Iterable<? extends CompilationUnitTree> units = task.parse();
            task.analyze();
            Walk walk = new Walk(Trees.instance(task));
            for (CompilationUnitTree unit : units) {
                walk.scan(unit, null);
            }
            depths(walk);
            due("few classes", walk.classes <= MOST_CLASSES);
            for (String name : walk.publicNames) {
                due("no other method is named " + name, !walk.otherNames.contains(name));
            }
            due("the 17 methods of the face are seen", walk.publicNames.size() == 17);
            due("the calls are seen, those of fields too", walk.calls.size() > 50 && walk.ofFields.size() > 3);
        }
        System.out.println(wrong == 0 ? "the class keeps to the rules that its tree shows" : wrong + " not as due");
        if (wrong != 0) {
            System.exit(1);
        }
    }
}
