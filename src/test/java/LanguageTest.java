import com.sun.source.tree.BinaryTree;
import com.sun.source.tree.BlockTree;
import com.sun.source.tree.ClassTree;
import com.sun.source.tree.CompilationUnitTree;
import com.sun.source.tree.ExpressionTree;
import com.sun.source.tree.LineMap;
import com.sun.source.tree.LiteralTree;
import com.sun.source.tree.MethodInvocationTree;
import com.sun.source.tree.MethodTree;
import com.sun.source.tree.NewClassTree;
import com.sun.source.tree.ThrowTree;
import com.sun.source.tree.Tree;
import com.sun.source.tree.VariableTree;
import com.sun.source.util.JavacTask;
import com.sun.source.util.TreePathScanner;
import com.sun.source.util.Trees;
import java.io.IOException;
import java.nio.file.Path;
import java.util.HashMap;
import java.util.LinkedHashMap;
import java.util.LinkedHashSet;
import java.util.List;
import java.util.Map;
import java.util.Set;
import javax.lang.model.element.Element;
import javax.lang.model.element.ElementKind;
import javax.lang.model.element.Modifier;
import javax.lang.model.type.ArrayType;
import javax.lang.model.type.DeclaredType;
import javax.lang.model.type.TypeKind;
import javax.lang.model.type.TypeMirror;
import javax.tools.JavaCompiler;
import javax.tools.StandardJavaFileManager;
import javax.tools.ToolProvider;

/**
 * The rules of LANGUAGE.md that can be seen from the program's text: the compiler reads it, and what
 * it found is looked at. Each fault is told with the rule's number.
 */
public final class LanguageTest {
    private static final Path PROGRAM = Path.of("src/main/java/IndexBureau.java");

    private static final int MOST_PARAMETERS = 7;
    private static final int MOST_LINES = 60;
    private static final int MOST_DEPTH = 8;
    private static final int MOST_CLASSES = 12;
    private static final int MOST_FIELDS = 20;

    private static final Set<String> EXCEPTIONS = Set.of("IllegalStateException", "IllegalArgumentException",
            "IndexOutOfBoundsException", "ArithmeticException", "UnsupportedOperationException",
            "NoSuchElementException", "RuntimeException");
    private static final Set<String> LIBRARY = Set.of("System.arraycopy", "Arrays.copyOf", "Arrays.copyOfRange",
            "Arrays.fill");
    private static final Set<String> CLASSES_OF_FUNCTIONS = Set.of("Integer", "Long", "Math");
    /** By the rule that is about it. A try may be, but this program does without. */
    private static final Map<Tree.Kind, Integer> RULED_OUT = Map.of(Tree.Kind.LAMBDA_EXPRESSION, 2,
            Tree.Kind.MEMBER_REFERENCE, 2, Tree.Kind.SYNCHRONIZED, 6, Tree.Kind.ASSERT, 6, Tree.Kind.TRY, 6);
    private static final Set<TypeKind> NUMBERS = Set.of(TypeKind.INT, TypeKind.LONG, TypeKind.SHORT, TypeKind.BYTE,
            TypeKind.CHAR, TypeKind.DOUBLE, TypeKind.FLOAT);
    private static final Set<TypeKind> CONSTANTS = Set.of(TypeKind.INT, TypeKind.LONG, TypeKind.BOOLEAN,
            TypeKind.CHAR);

    private static int wrong = 0;

    private static void fault(int rule, String text) {
        wrong++;
        System.out.println("rule " + rule + ": " + text);
    }

    /** Looks at the whole text, and notes who calls whom. */
    private static final class Reader extends TreePathScanner<Void, Void> {
        private final Trees trees;
        private final CompilationUnitTree unit;
        private final LineMap lines;
        final Map<Element, Set<Element>> calls = new LinkedHashMap<>();
        int classes = 0;
        private Element caller;

        Reader(Trees trees, CompilationUnitTree unit) {
            this.trees = trees;
            this.unit = unit;
            lines = unit.getLineMap();
        }

        private long lineOf(long position) {
            return lines.getLineNumber(position);
        }

        private String at(Tree tree) {
            return "line " + lineOf(trees.getSourcePositions().getStartPosition(unit, tree)) + ": ";
        }

        private boolean isOwn(Element element) {
            Element outer = element;
            while (outer != null && outer.getEnclosingElement() != null
                    && outer.getEnclosingElement().getKind() != ElementKind.PACKAGE) {
                outer = outer.getEnclosingElement();
            }
            return outer != null && outer.getSimpleName().contentEquals("IndexBureau");
        }

        @Override
        public Void scan(Tree tree, Void p) {
            if (tree != null && RULED_OUT.containsKey(tree.getKind())) {
                fault(RULED_OUT.get(tree.getKind()), at(tree) + tree.getKind());
            }
            return super.scan(tree, p);
        }

        @Override
        public Void visitClass(ClassTree tree, Void p) {
            classes++;
            int fields = 0;
            for (Tree member : tree.getMembers()) {
                if (member instanceof VariableTree field) {
                    fields += field.getModifiers().getFlags().contains(Modifier.STATIC) ? 0 : 1;
                }
                if (member instanceof BlockTree) {
                    fault(5, at(member) + "an initialiser block");
                }
            }
            if (fields > MOST_FIELDS) {
                fault(11, at(tree) + fields + " fields in " + tree.getSimpleName());
            }
            return super.visitClass(tree, p);
        }

        @Override
        public Void visitMethod(MethodTree tree, Void p) {
            Element before = caller;
            caller = trees.getElement(getCurrentPath());
            calls.putIfAbsent(caller, new LinkedHashSet<>());
            long first = lineOf(trees.getSourcePositions().getStartPosition(unit, tree));
            long last = lineOf(Math.max(0, trees.getSourcePositions().getEndPosition(unit, tree)));
            if (last - first + 1 > MOST_LINES) {
                fault(11, at(tree) + tree.getName() + " has " + (last - first + 1) + " lines");
            }
            if (tree.getParameters().size() > MOST_PARAMETERS) {
                fault(11, at(tree) + tree.getName() + " has " + tree.getParameters().size() + " parameters");
            }
            super.visitMethod(tree, p);
            caller = before;
            return null;
        }

        private void noteCall(Element called) {
            if (caller != null) {
                calls.get(caller).add(called);
            }
        }

        @Override
        public Void visitMethodInvocation(MethodInvocationTree tree, Void p) {
            Element called = trees.getElement(getCurrentPath());
            noteCall(called);
            String type = called.getEnclosingElement().getSimpleName().toString();
            String name = type + "." + called.getSimpleName();
            boolean function = CLASSES_OF_FUNCTIONS.contains(type) && !name.endsWith("Exact")
                    && called.getModifiers().contains(Modifier.STATIC);
            boolean ofObject = called.getKind() == ElementKind.CONSTRUCTOR;
            if (!isOwn(called) && !ofObject && !function && !LIBRARY.contains(name)) {
                fault(4, at(tree) + name);
            }
            return super.visitMethodInvocation(tree, p);
        }

        @Override
        public Void visitNewClass(NewClassTree tree, Void p) {
            Element called = trees.getElement(getCurrentPath());
            noteCall(called);
            if (!isOwn(called) && !EXCEPTIONS.contains(called.getEnclosingElement().getSimpleName().toString())) {
                fault(4, at(tree) + tree);
            }
            return super.visitNewClass(tree, p);
        }

        @Override
        public Void visitThrow(ThrowTree tree, Void p) {
            ExpressionTree thrown = tree.getExpression();
            boolean written = thrown instanceof NewClassTree made
                    && EXCEPTIONS.contains(made.getIdentifier().toString())
                    && made.getArguments().size() <= 1
                    && made.getArguments().stream().allMatch(a -> a instanceof LiteralTree);
            if (!written || caller == null || caller.getKind() == ElementKind.CONSTRUCTOR) {
                fault(6, at(tree) + tree);
            }
            return super.visitThrow(tree, p);
        }

        @Override
        public Void visitBinary(BinaryTree tree, Void p) {
            TypeMirror type = trees.getTypeMirror(getCurrentPath());
            if (tree.getKind() == Tree.Kind.PLUS && type.getKind() == TypeKind.DECLARED) {
                fault(10, at(tree) + "texts joined by +");
            }
            return super.visitBinary(tree, p);
        }

        @Override
        public Void visitVariable(VariableTree tree, Void p) {
            TypeMirror type = trees.getTypeMirror(getCurrentPath());
            if (!mayBeHeld(type, 0)) {
                fault(3, at(tree) + tree);
            }
            Set<Modifier> flags = tree.getModifiers().getFlags();
            if (flags.contains(Modifier.STATIC)) {
                boolean constant = CONSTANTS.contains(type.getKind()) || isText(type)
                        || tree.getInitializer() != null && tree.getInitializer().getKind() == Tree.Kind.NEW_ARRAY;
                if (!flags.contains(Modifier.FINAL) || !constant) {
                    fault(5, at(tree) + tree);
                }
            }
            return super.visitVariable(tree, p);
        }

        private boolean isText(TypeMirror type) {
            return type.toString().equals("java.lang.String");
        }

        private boolean mayBeHeld(TypeMirror type, int dimensions) {
            if (type instanceof ArrayType array) {
                return dimensions < 2 && mayBeHeld(array.getComponentType(), dimensions + 1);
            }
            if (dimensions == 2) {
                return NUMBERS.contains(type.getKind());
            }
            return type.getKind().isPrimitive() || isText(type) || isOwn(elementOf(type));
        }

        private Element elementOf(TypeMirror type) {
            return type instanceof DeclaredType declared ? declared.asElement() : null;
        }
    }

    /** The longest chains of calls; one that comes back to itself is recursion. */
    private static final class Chains {
        private final Map<Element, Set<Element>> calls;
        private final Map<Element, Integer> known = new HashMap<>();
        private final Set<Element> open = new LinkedHashSet<>();

        Chains(Map<Element, Set<Element>> calls) {
            this.calls = calls;
        }

        /** How many methods stand open at once, this one and the library's own among them. */
        int depthOf(Element method) {
            if (open.contains(method)) {
                fault(8, "recursion, which this program does without: " + method);
                return 0;
            }
            if (known.containsKey(method)) {
                return known.get(method);
            }
            open.add(method);
            int deepest = 0;
            for (Element called : calls.getOrDefault(method, Set.of())) {
                deepest = Math.max(deepest, depthOf(called));
            }
            open.remove(method);
            known.put(method, deepest + 1);
            return deepest + 1;
        }

        String chainFrom(Element method) {
            String text = method.getEnclosingElement().getSimpleName() + "." + method.getSimpleName();
            for (Element called : calls.getOrDefault(method, Set.of())) {
                if (depthOf(called) == depthOf(method) - 1) {
                    return text + " > " + chainFrom(called);
                }
            }
            return text;
        }
    }

    /** LANGUAGE.md, rule 11: "calls that are no recursion go at most eight deep". */
    private static void lookAtDepth(Reader reader) {
        Chains chains = new Chains(reader.calls);
        int deepest = 0;
        for (Element method : reader.calls.keySet()) {
            int depth = chains.depthOf(method);
            deepest = Math.max(deepest, depth);
            if (depth > MOST_DEPTH && method.getModifiers().contains(Modifier.PUBLIC)) {
                fault(11, depth + " deep: " + chains.chainFrom(method));
            }
        }
        System.out.println(reader.calls.size() + " methods and constructors, calls go " + deepest + " deep");
    }

    private static void lookAt(JavacTask task) throws IOException {
        int units = 0;
        Iterable<? extends CompilationUnitTree> parsed = task.parse();
        task.analyze();
        for (CompilationUnitTree unit : parsed) {
            units++;
            Reader reader = new Reader(Trees.instance(task), unit);
            reader.scan(unit, null);
            if (reader.classes > MOST_CLASSES) {
                fault(11, reader.classes + " classes");
            }
            // A test that found no calls would say nothing about them.
            if (reader.calls.size() < 16) {
                fault(1, "only " + reader.calls.size() + " methods were found");
            }
            lookAtDepth(reader);
        }
        if (units != 1) {
            fault(1, "the program is one file, and not " + units);
        }
    }

    public static void main(String[] args) throws IOException {
        JavaCompiler compiler = ToolProvider.getSystemJavaCompiler();
        try (StandardJavaFileManager files = compiler.getStandardFileManager(null, null, null)) {
            List<String> options = List.of("-proc:none", "-Xlint:-options", "--release", "17");
            lookAt((JavacTask) compiler.getTask(null, files, null, options, null, files.getJavaFileObjects(PROGRAM)));
        }
        System.out.println(wrong == 0 ? "the rules are kept" : wrong + " faults of the language");
        if (wrong != 0) {
            System.exit(1);
        }
    }
}
