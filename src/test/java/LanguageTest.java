import com.sun.source.tree.BinaryTree;
import com.sun.source.tree.CatchTree;
import com.sun.source.tree.ClassTree;
import com.sun.source.tree.CompilationUnitTree;
import com.sun.source.tree.ExpressionTree;
import com.sun.source.tree.ImportTree;
import com.sun.source.tree.MethodInvocationTree;
import com.sun.source.tree.MethodTree;
import com.sun.source.tree.NewClassTree;
import com.sun.source.tree.ThrowTree;
import com.sun.source.tree.Tree;
import com.sun.source.tree.TryTree;
import com.sun.source.tree.VariableTree;
import com.sun.source.util.JavacTask;
import com.sun.source.util.SourcePositions;
import com.sun.source.util.TreePath;
import com.sun.source.util.TreePathScanner;
import com.sun.source.util.Trees;
import java.io.IOException;
import java.nio.file.Files;
import java.nio.file.Path;
import java.util.ArrayList;
import java.util.Arrays;
import java.util.HashMap;
import java.util.LinkedHashSet;
import java.util.List;
import java.util.Map;
import java.util.Set;
import java.util.TreeSet;
import java.util.stream.Collectors;
import javax.lang.model.element.Element;
import javax.lang.model.element.ElementKind;
import javax.lang.model.element.ExecutableElement;
import javax.lang.model.element.Modifier;
import javax.lang.model.type.TypeMirror;
import javax.tools.JavaCompiler;
import javax.tools.StandardJavaFileManager;
import javax.tools.ToolProvider;

/** The face of the document, and the rules of LANGUAGE.md that can be read off the source of the class. */
public final class LanguageTest {
    private static final Path SOURCE = Path.of("src/main/java/PinEngines.java");
    private static final Path DOCUMENT = Path.of("../shared/DOC.md");

    /** Rule 4, of the library only what the class uses or may come to use without a list. */
    private static final Set<String> LIBRARY = Set.of("java.lang.String.length", "java.lang.String.charAt",
            "java.lang.String.isEmpty", "java.lang.String.equals", "java.lang.String.indexOf",
            "java.lang.String.substring", "java.lang.String.toCharArray", "java.lang.StringBuilder.append",
            "java.lang.StringBuilder.charAt", "java.lang.StringBuilder.setCharAt", "java.lang.StringBuilder.setLength",
            "java.lang.StringBuilder.deleteCharAt", "java.lang.StringBuilder.reverse", "java.lang.StringBuilder.length",
            "java.lang.StringBuilder.toString", "java.lang.System.arraycopy", "java.util.Arrays.copyOf",
            "java.util.Arrays.copyOfRange", "java.util.Arrays.fill");
    private static final Set<String> NUMBERS = Set.of("java.lang.Integer", "java.lang.Long", "java.lang.Math");

    /** Rule 6. */
    private static final Set<String> EXCEPTIONS = Set.of("java.lang.IllegalStateException",
            "java.lang.IllegalArgumentException", "java.lang.IndexOutOfBoundsException", "java.lang.ArithmeticException",
            "java.lang.UnsupportedOperationException", "java.util.NoSuchElementException", "java.lang.RuntimeException");

    /** Rules 2 and 6. */
    private static final Set<Tree.Kind> RULED_OUT = Set.of(Tree.Kind.LAMBDA_EXPRESSION, Tree.Kind.MEMBER_REFERENCE,
            Tree.Kind.SYNCHRONIZED, Tree.Kind.ASSERT);
    private static final Set<String> ENUM_FIELDS = Set.of("int", "long", "boolean", "java.lang.String");

    private static final int MOST_LINES = 60;
    private static final int MOST_PARAMETERS = 7;
    private static final int MOST_FIELDS = 20;
    private static final int MOST_CLASSES = 12;
    private static final int MOST_CALLS_DEEP = 8;

    private static final Map<String, Set<String>> CALLED = new HashMap<>();
    private static final Set<String> FACE = new TreeSet<>();
    private static final Set<String> OPEN_NAMES = new TreeSet<>();
    private static final Set<String> PRIVATE_NAMES = new TreeSet<>();
    private static int classes = 0;

    public static void main(String[] args) throws IOException {
        faceIsTheDocuments();
        readSource();
        Checks.due("classes in the file are too many: " + classes, classes > MOST_CLASSES, false);
        PRIVATE_NAMES.retainAll(OPEN_NAMES);
        Checks.due("private methods with the name of a public one", PRIVATE_NAMES.toString(), "[]");
        for (String method : FACE) {
            List<String> deepest = deepest(method, new LinkedHashSet<>());
            Checks.due("too deep: " + deepest, deepest.size() > MOST_CALLS_DEEP, false);
        }
        Checks.finish("LanguageTest");
    }

    /** Rule 1: the members that can be seen from outside are those that the document shows. */
    private static void faceIsTheDocuments() throws IOException {
        Set<String> seen = new TreeSet<>();
        Arrays.stream(PinEngines.class.getDeclaredMethods()).filter(m -> isSeen(m.getModifiers()))
                .forEach(m -> seen.add(plain(m.toString())));
        Arrays.stream(PinEngines.class.getDeclaredConstructors()).filter(c -> isSeen(c.getModifiers()))
                .forEach(c -> seen.add(plain(c.toString())));
        Arrays.stream(PinEngines.class.getDeclaredFields()).filter(f -> isSeen(f.getModifiers()))
                .forEach(f -> seen.add(plain(f.toString())));
        if (!Files.exists(DOCUMENT)) {
            System.out.println("DOC.md is not there: the face is not compared with it");
            return;
        }
        String text = Files.readString(DOCUMENT);
        int start = text.indexOf("public final class PinEngines {");
        Set<String> due = new TreeSet<>();
        for (String line : text.substring(start, text.indexOf("\n}", start)).split("\n")) {
            if (line.startsWith("    public ")) {
                due.add(plain(line.replaceAll(" = .*|;", "").replaceAll("(int|long|boolean) \\w+(?=[,)])", "$1")));
            }
        }
        Set<String> missing = new TreeSet<>(due);
        missing.removeAll(seen);
        seen.removeAll(due);
        Checks.due("members that the document does not show", seen.toString(), "[]");
        Checks.due("members that are missing", missing.toString(), "[]");
        String modifiers = java.lang.reflect.Modifier.toString(PinEngines.class.getModifiers());
        Checks.due("the modifiers of the class", modifiers, "public final");
    }

    private static boolean isSeen(int modifiers) {
        return !java.lang.reflect.Modifier.isPrivate(modifiers) && (modifiers & 0x1000) == 0;
    }

    private static String plain(String member) {
        return member.replaceAll("java\\.(util|lang)\\.", "").replaceAll("PinEngines\\.", "").replaceAll(", ?", ",").strip();
    }

    private static void readSource() throws IOException {
        JavaCompiler compiler = ToolProvider.getSystemJavaCompiler();
        try (StandardJavaFileManager files = compiler.getStandardFileManager(null, null, null)) {
            JavacTask task = (JavacTask) compiler.getTask(null, files, null, List.of("-proc:none"), null,
                    files.getJavaFileObjects(SOURCE));
            CompilationUnitTree unit = task.parse().iterator().next();
            task.analyze();
            Checks.due("a package line", unit.getPackageName() == null, true);
            for (Tree type : unit.getTypeDecls()) {
                Checks.due("one class in the file", ((ClassTree) type).getSimpleName().toString(), "PinEngines");
            }
            new Reader(Trees.instance(task), unit).scan(unit, null);
        }
    }

    /** The longest chain of calls that begins with this method, each method in it once. */
    private static List<String> deepest(String method, Set<String> open) {
        List<String> longest = List.of();
        open.add(method);
        for (String called : CALLED.getOrDefault(method, Set.of())) {
            if (!open.contains(called)) {
                List<String> chain = deepest(called, open);
                longest = chain.size() > longest.size() ? chain : longest;
            }
        }
        open.remove(method);
        List<String> chain = new ArrayList<>(List.of(method));
        chain.addAll(longest);
        return chain;
    }

    /** Looks at every part of the source. */
    private static final class Reader extends TreePathScanner<Void, Void> {
        private final Trees trees;
        private final CompilationUnitTree unit;
        private String method = "";
        private boolean inConstructor = false;

        Reader(Trees trees, CompilationUnitTree unit) {
            this.trees = trees;
            this.unit = unit;
        }

        @Override
        public Void scan(Tree tree, Void nothing) {
            if (tree != null) {
                Checks.due("what the rules rule out: " + tree, RULED_OUT.contains(tree.getKind()), false);
            }
            return super.scan(tree, nothing);
        }

        @Override
        public Void visitImport(ImportTree tree, Void nothing) {
            Checks.due("import", EXCEPTIONS.contains(tree.getQualifiedIdentifier().toString()), true);
            return super.visitImport(tree, nothing);
        }

        @Override
        public Void visitClass(ClassTree tree, Void nothing) {
            classes++;
            String name = tree.getSimpleName().toString();
            Element element = trees.getElement(getCurrentPath());
            boolean isNested = !name.equals("PinEngines");
            Checks.due(name + " is static", !isNested
                    || element.getModifiers().contains(Modifier.STATIC), true);
            Checks.due(name + " is package-visible at most", !isNested || !isOpen(element), true);
            int fields = 0;
            for (Element member : element.getEnclosedElements()) {
                boolean isConstant = member.getModifiers().contains(Modifier.STATIC);
                boolean isField = member.getKind() == ElementKind.FIELD && !isConstant;
                fields += isField ? 1 : 0;
                if (isField && element.getKind() == ElementKind.ENUM) {
                    Checks.due("a field of an enum", ENUM_FIELDS.contains(member.asType().toString()), true);
                }
                Checks.due(name + " has an initialiser block", member.getKind() == ElementKind.STATIC_INIT, false);
            }
            Checks.due(name + " has too many fields: " + fields, fields > MOST_FIELDS, false);
            return super.visitClass(tree, nothing);
        }

        @Override
        public Void visitMethod(MethodTree tree, Void nothing) {
            ExecutableElement element = (ExecutableElement) trees.getElement(getCurrentPath());
            String outer = method;
            method = nameOf(element);
            inConstructor = element.getKind() == ElementKind.CONSTRUCTOR;
            if (isOpen(element) && element.getEnclosingElement().getSimpleName().contentEquals("PinEngines")) {
                FACE.add(method);
                OPEN_NAMES.add(element.getSimpleName().toString());
            }
            if (!inConstructor && element.getModifiers().contains(Modifier.PRIVATE)) {
                PRIVATE_NAMES.add(element.getSimpleName().toString());
            }
            int lines = linesOf(tree);
            Checks.due(method + " has too many lines: " + lines, lines > MOST_LINES, false);
            Checks.due(method + " has too many parameters", tree.getParameters().size() > MOST_PARAMETERS, false);
            super.visitMethod(tree, nothing);
            method = outer;
            inConstructor = false;
            return null;
        }

        /** Rule 5. */
        @Override
        public Void visitVariable(VariableTree tree, Void nothing) {
            Set<Modifier> modifiers = tree.getModifiers().getFlags();
            boolean isStatic = modifiers.contains(Modifier.STATIC);
            boolean isFinal = modifiers.contains(Modifier.FINAL);
            Checks.due("static, but not final: " + tree, isStatic && !isFinal, false);
            return super.visitVariable(tree, nothing);
        }

        @Override
        public Void visitMethodInvocation(MethodInvocationTree tree, Void nothing) {
            called((ExecutableElement) trees.getElement(getCurrentPath()));
            return super.visitMethodInvocation(tree, nothing);
        }

        @Override
        public Void visitNewClass(NewClassTree tree, Void nothing) {
            called((ExecutableElement) trees.getElement(getCurrentPath()));
            return super.visitNewClass(tree, nothing);
        }

        /** Rules 4 and 8: what is called. */
        private void called(ExecutableElement element) {
            // Some methods of StringBuilder stand in a class above it, which has no name in the library.
            String owner = element.getEnclosingElement().toString().replace(".AbstractStringBuilder", ".StringBuilder");
            String name = owner + "." + element.getSimpleName();
            if (owner.startsWith("PinEngines")) {
                CALLED.computeIfAbsent(method, caller -> new TreeSet<>()).add(nameOf(element));
                return;
            }
            boolean isMade = element.getKind() == ElementKind.CONSTRUCTOR
                    && (EXCEPTIONS.contains(owner) || owner.equals("java.lang.StringBuilder")
                    || owner.equals("java.lang.String") || owner.equals("java.lang.Object") || owner.equals("java.lang.Enum"));
            boolean isOfNumbers = NUMBERS.contains(owner) && !name.endsWith("Exact")
                    && element.getModifiers().contains(Modifier.STATIC);
            Checks.due("of the library: " + name, isMade || isOfNumbers || LIBRARY.contains(name), true);
        }

        /** Rule 6. */
        @Override
        public Void visitThrow(ThrowTree tree, Void nothing) {
            TypeMirror type = trees.getTypeMirror(new TreePath(getCurrentPath(), tree.getExpression()));
            Checks.due("thrown: " + tree, tree.getExpression().getKind() == Tree.Kind.NEW_CLASS
                    && EXCEPTIONS.contains(type.toString()) && !inConstructor, true);
            return super.visitThrow(tree, nothing);
        }

        @Override
        public Void visitTry(TryTree tree, Void nothing) {
            boolean isPlain = tree.getFinallyBlock() == null && tree.getResources().isEmpty();
            Checks.due("plain: " + tree, isPlain, true);
            return super.visitTry(tree, nothing);
        }

        @Override
        public Void visitCatch(CatchTree tree, Void nothing) {
            TypeMirror type = trees.getTypeMirror(new TreePath(getCurrentPath(), tree.getParameter()));
            Checks.due("caught: " + tree, EXCEPTIONS.contains(type.toString()), true);
            return super.visitCatch(tree, nothing);
        }

        /** Rules 6 and 10: no text is joined by + or compared by == and !=. */
        @Override
        public Void visitBinary(BinaryTree tree, Void nothing) {
            Checks.due("text: " + tree, isText(tree.getLeftOperand()) || isText(tree.getRightOperand()), false);
            return super.visitBinary(tree, nothing);
        }

        private boolean isText(ExpressionTree part) {
            TypeMirror type = trees.getTypeMirror(new TreePath(getCurrentPath(), part));
            return type != null && type.toString().equals("java.lang.String");
        }

        private int linesOf(Tree tree) {
            SourcePositions positions = trees.getSourcePositions();
            long first = positions.getStartPosition(unit, tree);
            long last = positions.getEndPosition(unit, tree);
            if (first < 0 || last < 0) {
                return 0;
            }
            return (int) (unit.getLineMap().getLineNumber(last) - unit.getLineMap().getLineNumber(first)) + 1;
        }

        private static boolean isOpen(Element element) {
            return element.getModifiers().contains(Modifier.PUBLIC)
                    || element.getModifiers().contains(Modifier.PROTECTED);
        }

        private static String nameOf(ExecutableElement element) {
            String parameters = element.getParameters().stream().map(p -> p.asType().toString())
                    .collect(Collectors.joining(","));
            String owner = element.getEnclosingElement().toString().replace("PinEngines.", "");
            return owner + "." + element.getSimpleName() + "(" + parameters + ")";
        }
    }
}
