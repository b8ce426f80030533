import com.sun.source.tree.AssertTree;
import com.sun.source.tree.BinaryTree;
import com.sun.source.tree.CatchTree;
import com.sun.source.tree.ClassTree;
import com.sun.source.tree.CompilationUnitTree;
import com.sun.source.tree.ExpressionTree;
import com.sun.source.tree.ImportTree;
import com.sun.source.tree.InstanceOfTree;
import com.sun.source.tree.LambdaExpressionTree;
import com.sun.source.tree.MemberReferenceTree;
import com.sun.source.tree.MethodInvocationTree;
import com.sun.source.tree.MethodTree;
import com.sun.source.tree.NewClassTree;
import com.sun.source.tree.SynchronizedTree;
import com.sun.source.tree.ThrowTree;
import com.sun.source.tree.Tree;
import com.sun.source.tree.TryTree;
import com.sun.source.tree.VariableTree;
import com.sun.source.util.JavacTask;
import com.sun.source.util.TreePath;
import com.sun.source.util.TreePathScanner;
import com.sun.source.util.Trees;
import java.io.IOException;
import java.nio.charset.StandardCharsets;
import java.nio.file.Files;
import java.nio.file.Path;
import java.util.HashMap;
import java.util.List;
import java.util.Map;
import java.util.Set;
import java.util.TreeSet;
import javax.lang.model.element.Element;
import javax.lang.model.element.ElementKind;
import javax.lang.model.element.Modifier;
import javax.lang.model.type.TypeMirror;
import javax.tools.JavaCompiler;
import javax.tools.StandardJavaFileManager;
import javax.tools.ToolProvider;

/** What of ../shared/LANGUAGE.md can be read off the class's text, told with the number of the rule. */
public final class LanguageTest {
    private static final Path SOURCE = Path.of("src", "main", "java", "OperaMachines.java");
    private static final String NAME = "OperaMachines";
    private static final int DEEPEST = 8;
    private static final int MOST_CLASSES = 12;
    private static final int MOST_FIELDS = 20;
    private static final int MOST_LINES = 60;
    private static final int MOST_PARAMETERS = 7;

    private static final Set<String> IMPORTS = Set.of("java.util.ArrayList", "java.util.List", "java.util.Arrays",
            "java.util.Iterator", "java.util.NoSuchElementException");
    private static final Set<String> EXCEPTIONS = Set.of("IllegalStateException", "IllegalArgumentException",
            "IndexOutOfBoundsException", "ArithmeticException", "UnsupportedOperationException",
            "NoSuchElementException", "RuntimeException");
    private static final Set<String> NUMBERS = Set.of("int", "long", "short", "byte", "char", "boolean", "double",
            "float");
    private static final Map<String, Set<String>> LIBRARY = Map.ofEntries(
            Map.entry("java.lang.String", Set.of("length", "charAt", "isEmpty", "equals", "indexOf", "substring",
                    "toCharArray", "<init>")),
            Map.entry("java.lang.StringBuilder", Set.of("<init>", "append", "charAt", "setCharAt", "setLength",
                    "deleteCharAt", "reverse", "length", "toString")),
            Map.entry("java.util.ArrayList", Set.of("<init>", "add", "get", "set", "remove", "size", "isEmpty",
                    "clear")),
            Map.entry("java.util.List", Set.of("of", "add", "get", "set", "remove", "size", "isEmpty", "clear")),
            Map.entry("java.lang.Integer", Set.of("compare", "max", "min", "bitCount")),
            Map.entry("java.lang.Long", Set.of("compare", "max", "min", "bitCount")),
            Map.entry("java.lang.Math", Set.of("max", "min", "abs", "floorDiv", "floorMod")),
            Map.entry("java.lang.System", Set.of("arraycopy")),
            Map.entry("java.util.Arrays", Set.of("copyOf", "copyOfRange", "fill")),
            Map.entry("Array", Set.of("clone")),
            // A constructor begins with a call of Object's, which javac writes.
            Map.entry("java.lang.Object", Set.of("<init>")));

    private static void check(int rule, String what, boolean kept) {
        Tries.due(true, "rule " + rule + ", " + what + ": that it", kept);
    }

    /** Goes through the text's tree, checks each part of it, and notes which method calls which. */
    private static final class Rules extends TreePathScanner<Void, Void> {
        private final Trees trees;
        private final CompilationUnitTree unit;
        private final Map<String, Set<String>> calls = new HashMap<>();
        private String method = "";
        private boolean inConstructor = false;
        private int classes = 0;

        Rules(Trees trees, CompilationUnitTree unit) {
            this.trees = trees;
            this.unit = unit;
        }

        private String at(Tree tree) {
            long position = trees.getSourcePositions().getStartPosition(unit, tree);
            return "line " + unit.getLineMap().getLineNumber(position);
        }

        private TypeMirror typeOf(Tree tree) {
            return trees.getTypeMirror(TreePath.getPath(unit, tree));
        }

        private static boolean isAllowed(String type) {
            String plain = type.replaceAll("\\[\\]$", "").replaceAll("^java\\.util\\.(Array)?List<(.*)>$", "$2");
            boolean number = NUMBERS.contains(plain.replaceAll("\\[\\]$", ""));
            return number || plain.startsWith(NAME) || Set.of("void", "none", "java.lang.String",
                    "java.lang.StringBuilder", "java.lang.Integer").contains(plain);
        }

        @Override
        public Void visitImport(ImportTree tree, Void unused) {
            check(4, at(tree) + ", the import of " + tree.getQualifiedIdentifier(),
                    !tree.isStatic() && IMPORTS.contains(tree.getQualifiedIdentifier().toString()));
            return super.visitImport(tree, unused);
        }

        @Override
        public Void visitClass(ClassTree tree, Void unused) {
            classes++;
            int fields = 0;
            for (Tree member : tree.getMembers()) {
                boolean fixed = member instanceof VariableTree
                        && ((VariableTree) member).getModifiers().getFlags().contains(Modifier.STATIC);
                fields += member instanceof VariableTree && !fixed ? 1 : 0;
                check(5, at(member) + ", no static initialiser block", member.getKind() != Tree.Kind.BLOCK);
            }
            check(11, fields + " fields of " + tree.getSimpleName(), fields <= MOST_FIELDS);
            return super.visitClass(tree, unused);
        }

        @Override
        public Void visitVariable(VariableTree tree, Void unused) {
            Set<Modifier> flags = tree.getModifiers().getFlags();
            String type = typeOf(tree).toString();
            boolean caught = getCurrentPath().getParentPath().getLeaf() instanceof CatchTree;
            check(3, at(tree) + ", the type " + type, caught || isAllowed(type));
            if (flags.contains(Modifier.STATIC)) {
                check(5, at(tree) + ", static and final", flags.contains(Modifier.FINAL));
                check(5, at(tree) + ", a constant of " + type, Set.of("int", "long", "boolean", "char",
                        "java.lang.String", "int[]", "long[]", "char[]", "byte[]").contains(type));
            }
            return super.visitVariable(tree, unused);
        }

        @Override
        public Void visitMethod(MethodTree tree, Void unused) {
            Element element = trees.getElement(getCurrentPath());
            method = element.getEnclosingElement() + "." + element;
            inConstructor = element.getKind() == ElementKind.CONSTRUCTOR;
            calls.computeIfAbsent(method, name -> new TreeSet<>());
            long first = trees.getSourcePositions().getStartPosition(unit, tree);
            long last = trees.getSourcePositions().getEndPosition(unit, tree);
            long lines = last < 0 ? 1
                    : unit.getLineMap().getLineNumber(last) - unit.getLineMap().getLineNumber(first) + 1;
            check(11, method + " of " + lines + " lines", lines <= MOST_LINES);
            check(11, method + "'s parameters", tree.getParameters().size() <= MOST_PARAMETERS);
            check(6, method + " is not one of Object's", !Set.of("equals", "hashCode", "toString")
                    .contains(tree.getName().toString()));
            super.visitMethod(tree, unused);
            method = "";
            inConstructor = false;
            return null;
        }

        private void called(Tree tree, Element element) {
            String type = element.getEnclosingElement().toString();
            if (type.startsWith(NAME)) {
                calls.computeIfAbsent(method, name -> new TreeSet<>()).add(type + "." + element);
                return;
            }
            boolean thrown = getCurrentPath().getParentPath().getLeaf() instanceof ThrowTree;
            check(4, at(tree) + ", " + type + "'s " + element, thrown
                    || LIBRARY.getOrDefault(type, Set.of()).contains(element.getSimpleName().toString()));
            // A call of the library counts as a level too.
            calls.computeIfAbsent(method, name -> new TreeSet<>()).add(type + "." + element);
        }

        @Override
        public Void visitMethodInvocation(MethodInvocationTree tree, Void unused) {
            called(tree, trees.getElement(getCurrentPath()));
            return super.visitMethodInvocation(tree, unused);
        }

        @Override
        public Void visitNewClass(NewClassTree tree, Void unused) {
            called(tree, trees.getElement(getCurrentPath()));
            check(2, at(tree) + ", no class without a name", tree.getClassBody() == null);
            return super.visitNewClass(tree, unused);
        }

        @Override
        public Void visitThrow(ThrowTree tree, Void unused) {
            boolean made = tree.getExpression() instanceof NewClassTree;
            NewClassTree exception = made ? (NewClassTree) tree.getExpression() : null;
            boolean listed = made && EXCEPTIONS.contains(exception.getIdentifier().toString());
            boolean plain = made && exception.getArguments().size() <= 1;
            for (ExpressionTree text : made ? exception.getArguments() : List.<ExpressionTree>of()) {
                plain &= text.getKind() == Tree.Kind.STRING_LITERAL;
            }
            check(6, at(tree) + ", a new exception of the list with a written text", listed && plain);
            check(6, at(tree) + ", no throw in a constructor", !inConstructor);
            return super.visitThrow(tree, unused);
        }

        @Override
        public Void visitTry(TryTree tree, Void unused) {
            check(6, at(tree) + ", no finally, no resources",
                    tree.getFinallyBlock() == null && tree.getResources().isEmpty());
            return super.visitTry(tree, unused);
        }

        @Override
        public Void visitCatch(CatchTree tree, Void unused) {
            String caught = tree.getParameter().getType().toString();
            // Those the Java machine throws by itself, and the classes above them, are never caught.
            check(6, at(tree) + ", a catch of " + caught, EXCEPTIONS.contains(caught)
                    && !Set.of("RuntimeException", "IndexOutOfBoundsException", "ArithmeticException").contains(caught));
            return super.visitCatch(tree, unused);
        }

        @Override
        public Void visitBinary(BinaryTree tree, Void unused) {
            check(10, at(tree) + ", no texts joined by +", !typeOf(tree).toString().equals("java.lang.String"));
            return super.visitBinary(tree, unused);
        }

        @Override
        public Void visitLambdaExpression(LambdaExpressionTree tree, Void unused) {
            check(2, at(tree) + ", no lambda", false);
            return super.visitLambdaExpression(tree, unused);
        }

        @Override
        public Void visitMemberReference(MemberReferenceTree tree, Void unused) {
            check(2, at(tree) + ", no method reference", false);
            return super.visitMemberReference(tree, unused);
        }

        @Override
        public Void visitSynchronized(SynchronizedTree tree, Void unused) {
            check(6, at(tree) + ", no synchronized", false);
            return super.visitSynchronized(tree, unused);
        }

        @Override
        public Void visitAssert(AssertTree tree, Void unused) {
            check(6, at(tree) + ", no assert", false);
            return super.visitAssert(tree, unused);
        }

        @Override
        public Void visitInstanceOf(InstanceOfTree tree, Void unused) {
            check(6, at(tree) + ", instanceof among own classes", typeOf(tree.getType()).toString().startsWith(NAME));
            return super.visitInstanceOf(tree, unused);
        }

        /** How many calls stand open at once below this one, itself counted; recursion counts as too deep. */
        private int depth(String name, int above) {
            if (above > DEEPEST) {
                return 1;
            }
            int below = 0;
            for (String callee : calls.getOrDefault(name, Set.of())) {
                below = Math.max(below, depth(callee, above + 1));
            }
            return 1 + below;
        }

        void checkDepths() {
            check(11, "the text has methods", calls.size() > 21);
            for (String name : calls.keySet()) {
                check(11, "the depth of " + name, depth(name, 1) <= DEEPEST);
            }
            check(11, classes + " classes", classes <= MOST_CLASSES);
        }
    }

    private static void theTextKeepsToTheRules() {
        JavaCompiler compiler = ToolProvider.getSystemJavaCompiler();
        try (StandardJavaFileManager files = compiler.getStandardFileManager(null, null, StandardCharsets.UTF_8)) {
            JavacTask task = (JavacTask) compiler.getTask(null, files, null, List.of("--release", "17"), null,
                    files.getJavaFileObjects(SOURCE));
            CompilationUnitTree unit = task.parse().iterator().next();
            task.analyze();
            check(1, "no package line", unit.getPackageName() == null);
            check(1, "one class at the top", unit.getTypeDecls().size() == 1);
            Rules rules = new Rules(Trees.instance(task), unit);
            rules.scan(unit, null);
            rules.checkDepths();
        } catch (IOException e) {
            throw new IllegalStateException(e);
        }
    }

    private static void theSignsAreOneTo127() {
        try {
            for (byte sign : Files.readAllBytes(SOURCE)) {
                check(4, "the sign " + sign, sign > 0);
            }
        } catch (IOException e) {
            throw new IllegalStateException(e);
        }
    }

    public static void main(String[] args) {
        Tries.test("LANGUAGE.md", LanguageTest::theTextKeepsToTheRules);
        Tries.test("LANGUAGE.md", LanguageTest::theSignsAreOneTo127);
        Tries.end("LanguageTest");
    }
}
