import com.sun.source.tree.AssertTree;
import com.sun.source.tree.BinaryTree;
import com.sun.source.tree.BlockTree;
import com.sun.source.tree.ClassTree;
import com.sun.source.tree.CompilationUnitTree;
import com.sun.source.tree.CompoundAssignmentTree;
import com.sun.source.tree.DoWhileLoopTree;
import com.sun.source.tree.ExpressionTree;
import com.sun.source.tree.ForLoopTree;
import com.sun.source.tree.IdentifierTree;
import com.sun.source.tree.LambdaExpressionTree;
import com.sun.source.tree.MemberReferenceTree;
import com.sun.source.tree.MemberSelectTree;
import com.sun.source.tree.MethodInvocationTree;
import com.sun.source.tree.MethodTree;
import com.sun.source.tree.NewClassTree;
import com.sun.source.tree.SynchronizedTree;
import com.sun.source.tree.ThrowTree;
import com.sun.source.tree.Tree;
import com.sun.source.tree.TryTree;
import com.sun.source.tree.VariableTree;
import com.sun.source.tree.WhileLoopTree;
import com.sun.source.util.JavacTask;
import com.sun.source.util.SourcePositions;
import com.sun.source.util.TreePath;
import com.sun.source.util.TreePathScanner;
import com.sun.source.util.Trees;
import java.io.IOException;
import java.nio.file.Files;
import java.nio.file.Path;
import java.util.ArrayList;
import java.util.LinkedHashMap;
import java.util.LinkedHashSet;
import java.util.List;
import java.util.Map;
import java.util.Set;
import java.util.stream.Stream;
import javax.lang.model.element.Element;
import javax.lang.model.element.ElementKind;
import javax.lang.model.element.ExecutableElement;
import javax.lang.model.element.Modifier;
import javax.lang.model.element.VariableElement;
import javax.lang.model.type.ArrayType;
import javax.lang.model.type.DeclaredType;
import javax.lang.model.type.TypeKind;
import javax.lang.model.type.TypeMirror;
import javax.tools.JavaCompiler;
import javax.tools.StandardJavaFileManager;
import javax.tools.ToolProvider;

/**
 * The program's source keeps those rules of LANGUAGE.md that its text alone can show: 2 to 6 and 8
 * to 11 in part. It is run from the project's folder. What it forbids is at times more than the
 * rules do (Iterator, Comparable, List.of and exceptions' texts are left out, as the program has no
 * use for them); what it allows still wants reading: rule 7 and the room of rule 12 most of all.
 */
public final class InjectorTreeLanguage {
    private static final Path SOURCES = Path.of("src/main/java");
    private static final String FILE = "InjectorTree.java";
    private static final int MOST_PARAMETERS = 7;
    private static final int MOST_LINES = 60;
    private static final int MOST_CLASSES = 12;
    private static final int MOST_FIELDS = 20;
    private static final int MOST_CALLS_DEEP = 8;

    private static final Set<String> LIBRARY_TYPES = Set.of("java.lang.String",
            "java.lang.StringBuilder", "java.lang.Integer", "java.util.ArrayList", "java.util.List");
    private static final Set<String> ENUM_FIELDS = Set.of("int", "long", "boolean", "java.lang.String");
    private static final Set<String> CONSTANTS = Set.of("int", "long", "boolean", "char",
            "java.lang.String", "int[]", "long[]", "char[]", "byte[]");
    private static final Map<String, Set<String>> LIBRARY = Map.of(
            "java.lang.String", Set.of("length", "charAt", "isEmpty", "equals", "indexOf",
                    "substring", "toCharArray", "<init>"),
            "java.lang.StringBuilder", Set.of("<init>", "append", "charAt", "setCharAt", "setLength",
                    "deleteCharAt", "reverse", "length", "toString"),
            "java.util.ArrayList", Set.of("<init>", "add", "get", "set", "remove", "size",
                    "isEmpty", "clear"),
            "java.util.List", Set.of("add", "get", "set", "remove", "size", "isEmpty", "clear"),
            "java.lang.System", Set.of("arraycopy"),
            "java.util.Arrays", Set.of("copyOf", "copyOfRange", "fill"),
            // The compiler writes these calls into constructors.
            "java.lang.Object", Set.of("<init>"),
            "java.lang.Enum", Set.of("<init>"));
    private static final Set<String> ARITHMETIC =
            Set.of("java.lang.Integer", "java.lang.Long", "java.lang.Math");

    private static int wrong = 0;

    private static void due(boolean holds, int rule, Object what) {
        if (!holds) {
            wrong++;
            System.out.println("rule " + rule + ": " + what);
        }
    }

    public static void main(String[] args) throws IOException {
        try (Stream<Path> files = Files.walk(SOURCES)) {
            List<Path> found = files.filter(Files::isRegularFile).toList();
            due(found.equals(List.of(SOURCES.resolve(FILE))), 1, "the program is not one file: " + found);
        }
        JavaCompiler compiler = ToolProvider.getSystemJavaCompiler();
        try (StandardJavaFileManager manager = compiler.getStandardFileManager(null, null, null)) {
            JavacTask task = (JavacTask) compiler.getTask(null, manager, null,
                    List.of("--release", "17", "-proc:none"), null,
                    manager.getJavaFileObjects(SOURCES.resolve(FILE)));
            CompilationUnitTree unit = task.parse().iterator().next();
            task.analyze();
            Reader reader = new Reader(Trees.instance(task), unit);
            reader.scan(unit, null);
            reader.lookAtTheWhole();
        }
        if (wrong != 0) {
            System.exit(1);
        }
    }

    /** Goes over the whole file once; what only the whole can tell is looked at afterwards. */
    private static final class Reader extends TreePathScanner<Void, Void> {
        private final Trees trees;
        private final CompilationUnitTree unit;
        private final Map<ExecutableElement, Set<ExecutableElement>> calls = new LinkedHashMap<>();
        private int classes = 0;

        Reader(Trees trees, CompilationUnitTree unit) {
            this.trees = trees;
            this.unit = unit;
        }

        void lookAtTheWhole() {
            due(classes <= MOST_CLASSES, 11, classes + " classes");
            for (ExecutableElement method : calls.keySet()) {
                int deep = longestWay(method, new ArrayList<>());
                due(deep <= MOST_CALLS_DEEP, 11, "calls go " + deep + " deep from " + method);
                due(!comesBackTo(method) || takesDepth(method), 8, "recursion without depth: " + method);
            }
        }

        /** How many methods stand open at most from this one, each counted once. */
        private int longestWay(ExecutableElement method, List<ExecutableElement> open) {
            if (open.contains(method)) {
                return 0;
            }
            open.add(method);
            int longest = 0;
            for (ExecutableElement called : calls.getOrDefault(method, Set.of())) {
                longest = Math.max(longest, longestWay(called, open));
            }
            open.remove(method);
            return longest + 1;
        }

        private boolean comesBackTo(ExecutableElement method) {
            Set<ExecutableElement> met = new LinkedHashSet<>();
            List<ExecutableElement> waiting = new ArrayList<>(List.of(method));
            while (!waiting.isEmpty()) {
                for (ExecutableElement called : calls.getOrDefault(waiting.remove(0), Set.of())) {
                    if (met.add(called)) {
                        waiting.add(called);
                    }
                }
            }
            return met.contains(method);
        }

        private static boolean takesDepth(ExecutableElement method) {
            return method.getParameters().stream()
                    .anyMatch(parameter -> parameter.getSimpleName().contentEquals("depth"));
        }

        @Override
        public Void visitClass(ClassTree node, Void none) {
            classes++;
            Tree around = getCurrentPath().getParentPath().getLeaf();
            due(around instanceof CompilationUnitTree || around instanceof ClassTree, 2,
                    "a class inside a method: " + node.getSimpleName());
            int fields = 0;
            for (Tree member : node.getMembers()) {
                if (member instanceof VariableTree field) {
                    boolean constant = field.getModifiers().getFlags().contains(Modifier.STATIC);
                    fields += constant ? 0 : 1;
                    lookAtField(node, field, constant);
                }
                due(!(member instanceof BlockTree), 5, "a block among the members: " + member);
            }
            due(fields <= MOST_FIELDS, 11, fields + " fields in " + node.getSimpleName());
            return super.visitClass(node, none);
        }

        private void lookAtField(ClassTree owner, VariableTree field, boolean constant) {
            Element element = trees.getElement(new TreePath(getCurrentPath(), field));
            if (element.getKind() == ElementKind.ENUM_CONSTANT) {
                return;
            }
            String type = element.asType().toString();
            if (constant) {
                due(element.getModifiers().contains(Modifier.FINAL), 5, "not final: " + field);
                due(CONSTANTS.contains(type), 5, "a static field: " + field);
                due(field.getInitializer() != null, 5, "not written out: " + field);
            } else if (owner.getKind() == Tree.Kind.ENUM) {
                due(ENUM_FIELDS.contains(type), 2, "an enum's field: " + field);
            }
        }

        @Override
        public Void visitMethod(MethodTree node, Void none) {
            ExecutableElement method = (ExecutableElement) trees.getElement(getCurrentPath());
            calls.putIfAbsent(method, new LinkedHashSet<>());
            due(node.getParameters().size() <= MOST_PARAMETERS, 11, "too many parameters: " + method);
            due(linesOf(node) <= MOST_LINES, 11, linesOf(node) + " lines: " + method);
            lookAtType(method.getReturnType(), method);
            return super.visitMethod(node, none);
        }

        private long linesOf(Tree node) {
            SourcePositions places = trees.getSourcePositions();
            return unit.getLineMap().getLineNumber(Math.max(0, places.getEndPosition(unit, node)))
                    - unit.getLineMap().getLineNumber(places.getStartPosition(unit, node)) + 1;
        }

        @Override
        public Void visitVariable(VariableTree node, Void none) {
            VariableElement variable = (VariableElement) trees.getElement(getCurrentPath());
            lookAtType(variable.asType(), node);
            return super.visitVariable(node, none);
        }

        private void lookAtType(TypeMirror type, Object where) {
            if (type.getKind() == TypeKind.ARRAY) {
                TypeMirror inner = ((ArrayType) type).getComponentType();
                boolean rows = inner.getKind() == TypeKind.ARRAY;
                TypeMirror element = rows ? ((ArrayType) inner).getComponentType() : inner;
                due(element.getKind().isPrimitive() || !rows && isOwn(element), 3, where);
            } else if (type.getKind() == TypeKind.DECLARED) {
                due(isOwn(type) || LIBRARY_TYPES.contains(nameOf(type)), 3, where);
                for (TypeMirror part : ((DeclaredType) type).getTypeArguments()) {
                    due(isOwn(part) || nameOf(part).equals("java.lang.Integer"), 3, where);
                }
            } else {
                due(type.getKind().isPrimitive() || type.getKind() == TypeKind.VOID
                        || type.getKind() == TypeKind.TYPEVAR, 3, where);
            }
        }

        private static String nameOf(TypeMirror type) {
            return type.getKind() == TypeKind.DECLARED
                    ? ((DeclaredType) type).asElement().toString() : type.toString();
        }

        private static boolean isOwn(TypeMirror type) {
            return type.getKind() == TypeKind.DECLARED && isOwn(((DeclaredType) type).asElement());
        }

        private static boolean isOwn(Element element) {
            Element at = element;
            while (at != null && at.getEnclosingElement() != null
                    && at.getEnclosingElement().getKind() != ElementKind.PACKAGE) {
                at = at.getEnclosingElement();
            }
            return at != null && at.toString().equals("InjectorTree");
        }

        /** Every name of a method, constructor or field in the file is an own one or a listed one. */
        private void lookAtUse(Tree node) {
            Element used = trees.getElement(getCurrentPath());
            if (used == null || !(used instanceof ExecutableElement || used.getKind().isField())) {
                return;
            }
            String owner = String.valueOf(used.getEnclosingElement());
            String name = used.getSimpleName().toString();
            boolean ofArray = used.getEnclosingElement().asType().getKind() != TypeKind.DECLARED
                    || owner.equals("Array");
            boolean allowed = isOwn(used)
                    || ofArray && (name.equals("length") || name.equals("clone"))
                    || LIBRARY.getOrDefault(owner, Set.of()).contains(name)
                    || ARITHMETIC.contains(owner) && isWholeArithmetic(used);
            due(allowed, 4, owner + "." + name + " in " + node);
            noteCall(used);
        }

        private static boolean isWholeArithmetic(Element used) {
            return used instanceof ExecutableElement method
                    && method.getModifiers().contains(Modifier.STATIC)
                    && !method.getSimpleName().toString().endsWith("Exact")
                    && method.getReturnType().getKind().isPrimitive()
                    && method.getParameters().stream().allMatch(parameter ->
                            parameter.asType().getKind() == TypeKind.INT
                            || parameter.asType().getKind() == TypeKind.LONG);
        }

        private void noteCall(Element used) {
            ExecutableElement from = methodAround();
            if (from != null && used instanceof ExecutableElement called && isOwn(called)) {
                calls.computeIfAbsent(from, method -> new LinkedHashSet<>()).add(called);
            }
        }

        private ExecutableElement methodAround() {
            for (TreePath at = getCurrentPath(); at != null; at = at.getParentPath()) {
                if (at.getLeaf() instanceof MethodTree) {
                    return (ExecutableElement) trees.getElement(at);
                }
            }
            return null;
        }

        @Override
        public Void visitIdentifier(IdentifierTree node, Void none) {
            lookAtUse(node);
            return super.visitIdentifier(node, none);
        }

        @Override
        public Void visitMemberSelect(MemberSelectTree node, Void none) {
            lookAtUse(node);
            return super.visitMemberSelect(node, none);
        }

        @Override
        public Void visitNewClass(NewClassTree node, Void none) {
            if (!(getCurrentPath().getParentPath().getLeaf() instanceof ThrowTree)) {
                lookAtUse(node);
            }
            return super.visitNewClass(node, none);
        }

        @Override
        public Void visitMethodInvocation(MethodInvocationTree node, Void none) {
            lookAtUse(node);
            return super.visitMethodInvocation(node, none);
        }

        @Override
        public Void visitLambdaExpression(LambdaExpressionTree node, Void none) {
            due(false, 2, "a lambda: " + node);
            return super.visitLambdaExpression(node, none);
        }

        @Override
        public Void visitMemberReference(MemberReferenceTree node, Void none) {
            due(false, 2, "a method reference: " + node);
            return super.visitMemberReference(node, none);
        }

        /** The document lets no call throw, so the program has no throw at all to look at. */
        @Override
        public Void visitThrow(ThrowTree node, Void none) {
            due(false, 6, "a throw: " + node);
            return super.visitThrow(node, none);
        }

        @Override
        public Void visitTry(TryTree node, Void none) {
            due(false, 6, "a try where nothing throws: " + node);
            return super.visitTry(node, none);
        }

        @Override
        public Void visitSynchronized(SynchronizedTree node, Void none) {
            due(false, 6, "synchronized: " + node);
            return super.visitSynchronized(node, none);
        }

        @Override
        public Void visitAssert(AssertTree node, Void none) {
            due(false, 6, "assert: " + node);
            return super.visitAssert(node, none);
        }

        @Override
        public Void visitForLoop(ForLoopTree node, Void none) {
            lookAtEnd(node.getCondition(), node);
            return super.visitForLoop(node, none);
        }

        @Override
        public Void visitWhileLoop(WhileLoopTree node, Void none) {
            lookAtEnd(node.getCondition(), node);
            return super.visitWhileLoop(node, none);
        }

        @Override
        public Void visitDoWhileLoop(DoWhileLoopTree node, Void none) {
            lookAtEnd(node.getCondition(), node);
            return super.visitDoWhileLoop(node, none);
        }

        private void lookAtEnd(ExpressionTree condition, Tree loop) {
            due(condition != null && !condition.toString().replaceAll("[()]", "").equals("true"), 9,
                    "a loop without an end: " + loop);
        }

        @Override
        public Void visitBinary(BinaryTree node, Void none) {
            String left = typeOf(node.getLeftOperand());
            String right = typeOf(node.getRightOperand());
            if (node.getKind() == Tree.Kind.PLUS) {
                due(!left.equals("java.lang.String") && !right.equals("java.lang.String"), 10,
                        "texts joined by +: " + node);
            }
            if (node.getKind() == Tree.Kind.EQUAL_TO || node.getKind() == Tree.Kind.NOT_EQUAL_TO) {
                boolean objects = left.equals("java.lang.String") || left.equals("java.lang.Integer");
                due(!objects || !left.equals(right), 6, "objects compared: " + node);
            }
            return super.visitBinary(node, none);
        }

        @Override
        public Void visitCompoundAssignment(CompoundAssignmentTree node, Void none) {
            due(!typeOf(node.getVariable()).equals("java.lang.String"), 10,
                    "texts joined by +=: " + node);
            return super.visitCompoundAssignment(node, none);
        }

        private String typeOf(ExpressionTree node) {
            return String.valueOf(trees.getTypeMirror(new TreePath(getCurrentPath(), node)));
        }
    }
}
