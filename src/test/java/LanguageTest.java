import com.sun.source.tree.BinaryTree;
import com.sun.source.tree.BlockTree;
import com.sun.source.tree.ClassTree;
import com.sun.source.tree.CompilationUnitTree;
import com.sun.source.tree.CompoundAssignmentTree;
import com.sun.source.tree.EnhancedForLoopTree;
import com.sun.source.tree.ForLoopTree;
import com.sun.source.tree.LambdaExpressionTree;
import com.sun.source.tree.MemberReferenceTree;
import com.sun.source.tree.MethodInvocationTree;
import com.sun.source.tree.MethodTree;
import com.sun.source.tree.NewArrayTree;
import com.sun.source.tree.NewClassTree;
import com.sun.source.tree.SwitchTree;
import com.sun.source.tree.ThrowTree;
import com.sun.source.tree.Tree;
import com.sun.source.tree.TryTree;
import com.sun.source.tree.TypeCastTree;
import com.sun.source.tree.VariableTree;
import com.sun.source.tree.WhileLoopTree;
import com.sun.source.util.JavacTask;
import com.sun.source.util.TreePath;
import com.sun.source.util.TreePathScanner;
import com.sun.source.util.Trees;
import java.io.IOException;
import java.nio.file.Files;
import java.nio.file.Path;
import java.util.List;
import java.util.Map;
import java.util.Set;
import java.util.TreeMap;
import java.util.TreeSet;
import java.util.regex.Matcher;
import java.util.regex.Pattern;
import javax.lang.model.element.Element;
import javax.lang.model.element.ExecutableElement;
import javax.lang.model.element.Modifier;
import javax.lang.model.type.TypeMirror;
import javax.tools.JavaCompiler;
import javax.tools.StandardJavaFileManager;
import javax.tools.ToolProvider;

/** The rules of LANGUAGE.md, as far as they can be seen in the program as the compiler reads it. */
public final class LanguageTest {
    private static final Path PROGRAM = Path.of("src/main/java/HeatNetwork.java");
    private static final Set<String> TYPES = Set.of("int", "long", "char", "boolean", "float", "double", "void",
            "java.lang.String", "int[]", "long[]", "char[]", "boolean[]");
    private static final Set<String> LIBRARY = Set.of("java.util.Arrays.fill", "java.lang.System.arraycopy",
            "java.lang.Math.abs", "java.lang.Math.max", "java.lang.Math.min", "java.lang.Math.floorDiv",
            "java.lang.Integer.bitCount", "java.lang.Object.clone", "Array.clone");
    private static final Set<String> EXCEPTIONS = Set.of("IllegalStateException", "IllegalArgumentException",
            "IndexOutOfBoundsException", "ArithmeticException", "UnsupportedOperationException",
            "NoSuchElementException", "RuntimeException");
    private static final Set<String> STATIC_ARRAYS = Set.of("int[]", "long[]", "char[]", "byte[]");
    private static final int MOST_LINES = 60;
    private static final int MOST_PARAMETERS = 7;
    private static final int MOST_FIELDS = 20;
    private static final int MOST_CLASSES = 12;
    private static final int DEEPEST = 8;

    private LanguageTest() {
    }

    /** What a walk through the program has seen. */
    private static final class Walk extends TreePathScanner<Void, Void> {
        final Trees trees;
        final CompilationUnitTree unit;
        final Map<String, TreeSet<String>> calls = new TreeMap<>();
        final Map<String, TreeSet<String>> thrown = new TreeMap<>();
        final Map<String, TreeSet<String>> declared = new TreeMap<>();
        final Map<String, Integer> fields = new TreeMap<>();
        int whileLoops = 0;
        private String method = "";
        private boolean isConstructor = false;

        Walk(Trees trees, CompilationUnitTree unit) {
            this.trees = trees;
            this.unit = unit;
        }

        private String where(Tree tree) {
            long at = trees.getSourcePositions().getStartPosition(unit, tree);
            return "line " + unit.getLineMap().getLineNumber(at) + ": ";
        }

        private void must(Tree tree, String rule, boolean holds) {
            Check.due(where(tree) + rule, holds, true);
        }

        private TypeMirror typeOf(Tree tree) {
            return trees.getTypeMirror(new TreePath(getCurrentPath(), tree));
        }

        private static boolean isAllowed(TypeMirror type) {
            String name = type.toString();
            return TYPES.contains(name) || name.startsWith("HeatNetwork");
        }

        private static boolean isFraction(TypeMirror type) {
            return type != null && (type.toString().equals("float") || type.toString().equals("double"));
        }

        @Override
        public Void visitClass(ClassTree tree, Void nothing) {
            String name = tree.getSimpleName().toString();
            fields.put(name, 0);
            must(tree, "a class with a name, rule 2", !name.isEmpty());
            boolean isFace = name.equals("HeatNetwork");
            Set<Modifier> modifiers = tree.getModifiers().getFlags();
            must(tree, "static and not public inside, rule 1",
                    isFace || modifiers.contains(Modifier.STATIC) && !modifiers.contains(Modifier.PUBLIC));
            return super.visitClass(tree, nothing);
        }

        @Override
        public Void visitMethod(MethodTree tree, Void nothing) {
            Element element = trees.getElement(getCurrentPath());
            method = element.getEnclosingElement() + "." + element;
            isConstructor = tree.getReturnType() == null;
            calls.put(method, new TreeSet<>());
            thrown.put(method, new TreeSet<>());
            if (element.getModifiers().contains(Modifier.PUBLIC)) {
                declared.put(method, new TreeSet<>());
                for (Tree type : tree.getThrows()) {
                    declared.get(method).add(type.toString());
                }
            } else {
                must(tree, "no other throws clause than those of the face", tree.getThrows().isEmpty());
            }
            must(tree, "few parameters, rule 11", tree.getParameters().size() <= MOST_PARAMETERS);
            must(tree, "no type parameters", tree.getTypeParameters().isEmpty());
            must(tree, "an allowed answer, rule 3", isConstructor || isAllowed(typeOf(tree.getReturnType())));
            long first = unit.getLineMap().getLineNumber(trees.getSourcePositions().getStartPosition(unit, tree));
            long last = unit.getLineMap().getLineNumber(trees.getSourcePositions().getEndPosition(unit, tree));
            must(tree, "short, rule 11", last - first < MOST_LINES);
            Void answer = super.visitMethod(tree, nothing);
            method = "";
            isConstructor = false;
            return answer;
        }

        @Override
        public Void visitVariable(VariableTree tree, Void nothing) {
            must(tree, "an allowed type, rule 3", isAllowed(typeOf(tree.getType())));
            if (method.isEmpty()) {
                field(tree);
            }
            return super.visitVariable(tree, nothing);
        }

        private void field(VariableTree tree) {
            Element element = trees.getElement(getCurrentPath());
            Set<Modifier> modifiers = element.getModifiers();
            String type = element.asType().toString();
            if (modifiers.contains(Modifier.STATIC)) {
                must(tree, "a constant, rule 5", modifiers.contains(Modifier.FINAL));
                boolean isPlain = TYPES.contains(type) && !type.endsWith("]");
                must(tree, "a constant's type, rule 5", isPlain || STATIC_ARRAYS.contains(type));
                must(tree, "written out, rule 5", isPlain || tree.getInitializer() instanceof NewArrayTree);
                return;
            }
            fields.merge(element.getEnclosingElement().getSimpleName().toString(), 1, Integer::sum);
            must(tree, "an array that is made once", !type.endsWith("]") || modifiers.contains(Modifier.FINAL));
        }

        @Override
        public Void visitMethodInvocation(MethodInvocationTree tree, Void nothing) {
            ExecutableElement called = (ExecutableElement) trees.getElement(getCurrentPath());
            String name = called.getEnclosingElement() + "." + called;
            if (name.startsWith("HeatNetwork")) {
                note(calls, name);
            } else if (!name.endsWith(".super()") && !called.getSimpleName().contentEquals("<init>")) {
                String plain = called.getEnclosingElement() + "." + called.getSimpleName();
                must(tree, plain + " is in the library of rule 4", LIBRARY.contains(plain));
                note(calls, plain);
            }
            return super.visitMethodInvocation(tree, nothing);
        }

        private void note(Map<String, TreeSet<String>> map, String name) {
            if (!method.isEmpty()) {
                map.get(method).add(name);
            }
        }

        @Override
        public Void visitNewClass(NewClassTree tree, Void nothing) {
            boolean isThrown = getCurrentPath().getParentPath().getLeaf() instanceof ThrowTree;
            boolean isMadeOnce = method.isEmpty() || isConstructor;
            must(tree, "objects are made in constructors, rule 12", isThrown || isMadeOnce);
            must(tree, "no anonymous class", tree.getClassBody() == null);
            return super.visitNewClass(tree, nothing);
        }

        @Override
        public Void visitNewArray(NewArrayTree tree, Void nothing) {
            must(tree, "rows are made in constructors, rule 12", method.isEmpty() || isConstructor);
            return super.visitNewArray(tree, nothing);
        }

        @Override
        public Void visitThrow(ThrowTree tree, Void nothing) {
            must(tree, "no throw in a constructor, rule 6", !isConstructor);
            boolean isNew = tree.getExpression() instanceof NewClassTree;
            must(tree, "throw new, rule 6", isNew);
            if (isNew) {
                NewClassTree made = (NewClassTree) tree.getExpression();
                String name = made.getIdentifier().toString();
                must(tree, "an exception of rule 6", EXCEPTIONS.contains(name));
                must(tree, "a written text, rule 6", made.getArguments().isEmpty()
                        || made.getArguments().get(0).getKind() == Tree.Kind.STRING_LITERAL);
                note(thrown, name);
            }
            return super.visitThrow(tree, nothing);
        }

        @Override
        public Void visitTry(TryTree tree, Void nothing) {
            must(tree, "nothing is caught", false);
            return super.visitTry(tree, nothing);
        }

        @Override
        public Void visitLambdaExpression(LambdaExpressionTree tree, Void nothing) {
            must(tree, "no lambda, rule 2", false);
            return super.visitLambdaExpression(tree, nothing);
        }

        @Override
        public Void visitMemberReference(MemberReferenceTree tree, Void nothing) {
            must(tree, "no method reference, rule 2", false);
            return super.visitMemberReference(tree, nothing);
        }

        @Override
        public Void visitTypeCast(TypeCastTree tree, Void nothing) {
            must(tree, "a cast of numbers alone", typeOf(tree.getType()).getKind().isPrimitive());
            return super.visitTypeCast(tree, nothing);
        }

        @Override
        public Void visitBinary(BinaryTree tree, Void nothing) {
            TypeMirror left = typeOf(tree.getLeftOperand());
            TypeMirror right = typeOf(tree.getRightOperand());
            must(tree, "numbers and truths alone, rule 10",
                    left.getKind().isPrimitive() && right.getKind().isPrimitive());
            boolean isDivision = tree.getKind() == Tree.Kind.DIVIDE || tree.getKind() == Tree.Kind.REMAINDER;
            must(tree, "no remainder of fractions, rule 3",
                    tree.getKind() != Tree.Kind.REMAINDER || !isFraction(left) && !isFraction(right));
            must(tree, "a divisor that can be looked at", !isDivision || isPlainDivisor(tree.getRightOperand()));
            return super.visitBinary(tree, nothing);
        }

        private static boolean isPlainDivisor(Tree divisor) {
            return divisor.toString().matches("(\\(double\\))?[\\w.\\[\\]]+");
        }

        @Override
        public Void visitCompoundAssignment(CompoundAssignmentTree tree, Void nothing) {
            boolean isDivision = tree.getKind() == Tree.Kind.DIVIDE_ASSIGNMENT
                    || tree.getKind() == Tree.Kind.REMAINDER_ASSIGNMENT;
            must(tree, "no division by the way", !isDivision);
            must(tree, "no joining of texts, rule 10", typeOf(tree.getVariable()).getKind().isPrimitive());
            return super.visitCompoundAssignment(tree, nothing);
        }

        @Override
        public Void visitForLoop(ForLoopTree tree, Void nothing) {
            String condition = String.valueOf(tree.getCondition());
            must(tree, "a counter against a bound, rule 9",
                    condition.matches(".*[<>].*") && tree.getUpdate().size() == 1);
            return super.visitForLoop(tree, nothing);
        }

        @Override
        public Void visitEnhancedForLoop(EnhancedForLoopTree tree, Void nothing) {
            must(tree, "an array alone, rule 12", typeOf(tree.getExpression()).toString().endsWith("[]"));
            return super.visitEnhancedForLoop(tree, nothing);
        }

        @Override
        public Void visitWhileLoop(WhileLoopTree tree, Void nothing) {
            whileLoops++;
            must(tree, "a counter against a bound, rule 9",
                    tree.getCondition().toString().equals("(definitions < MOST_DEFINITIONS)"));
            return super.visitWhileLoop(tree, nothing);
        }

        @Override
        public Void visitSwitch(SwitchTree tree, Void nothing) {
            String type = typeOf(tree.getExpression()).toString();
            must(tree, "a switch on a number, rule 10", type.equals("int") || type.equals("char"));
            return super.visitSwitch(tree, nothing);
        }

        @Override
        public Void visitBlock(BlockTree tree, Void nothing) {
            boolean isInitialiser = getCurrentPath().getParentPath().getLeaf() instanceof ClassTree;
            must(tree, "no initialiser block, rule 5", !isInitialiser);
            return super.visitBlock(tree, nothing);
        }

        /** How many calls stand open at most, this one included; far too many if a call comes back to itself. */
        int depth(String name, int above) {
            if (above > DEEPEST) {
                return above;
            }
            int deepest = above + 1;
            for (String called : calls.getOrDefault(name, new TreeSet<>())) {
                deepest = Math.max(deepest, depth(called, above + 1));
            }
            return deepest;
        }

        /** What a call can throw: as nothing is caught, all that is thrown in it and in what it calls. */
        void addThrown(String name, Set<String> seen, Set<String> all) {
            if (seen.add(name)) {
                all.addAll(thrown.getOrDefault(name, new TreeSet<>()));
                for (String called : calls.getOrDefault(name, new TreeSet<>())) {
                    addThrown(called, seen, all);
                }
            }
        }
    }

    private static void asTheCompilerReadsIt() throws IOException {
        JavaCompiler compiler = ToolProvider.getSystemJavaCompiler();
        try (StandardJavaFileManager files = compiler.getStandardFileManager(null, null, null)) {
            JavacTask task = (JavacTask) compiler.getTask(null, files, null, List.of("-proc:none"), null,
                    files.getJavaFileObjects(PROGRAM));
            CompilationUnitTree unit = task.parse().iterator().next();
            task.analyze();
            Walk walk = new Walk(Trees.instance(task), unit);
            walk.scan(unit, null);
            Check.due("one public class", unit.getTypeDecls().size(), 1);
            Check.due("no package, rule 0", unit.getPackage() == null, true);
            Check.due("40 promises", walk.declared.size(), 40);
            Check.due("some twelve classes, rule 11", walk.fields.size() <= MOST_CLASSES, true);
            for (String name : walk.fields.keySet()) {
                Check.due(name + " has some twenty fields, rule 11", walk.fields.get(name) <= MOST_FIELDS, true);
            }
            for (String name : walk.calls.keySet()) {
                Check.due(name + " is not deep, rule 11", walk.depth(name, 0) <= DEEPEST, true);
            }
            for (String name : walk.declared.keySet()) {
                TreeSet<String> all = new TreeSet<>();
                walk.addThrown(name, new TreeSet<>(), all);
                Check.due(name + " throws what it says, rule 6", all, walk.declared.get(name));
            }
            Check.due("the while loops are the ones that were looked at, rule 9", walk.whileLoops, 1);
        }
    }

    private static void asText() throws IOException {
        String source = Files.readString(PROGRAM);
        Matcher imported = Pattern.compile("import ([^;]+);").matcher(source);
        TreeSet<String> imports = new TreeSet<>();
        while (imported.find()) {
            imports.add(imported.group(1));
        }
        Check.due("imports", imports, new TreeSet<>(List.of("java.util.Arrays", "java.util.NoSuchElementException")));
        Check.due("no sign beyond 127", Pattern.compile("[^\\x00-\\x7f]").matcher(source).find(), false);
        for (String word : new String[] {"@SuppressWarnings", "synchronized", "assert ", "finally", "Exact("}) {
            Check.due("the program has " + word, source.contains(word), false);
        }
        for (String line : source.split("\n")) {
            Check.due("lines of 120 signs: " + line, line.length() <= 120, true);
        }
    }

    public static void main(String[] arguments) throws IOException {
        asText();
        asTheCompilerReadsIt();
        Check.end("LanguageTest");
    }
}
