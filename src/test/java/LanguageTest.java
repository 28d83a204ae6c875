import com.sun.source.tree.AssertTree;
import com.sun.source.tree.BinaryTree;
import com.sun.source.tree.CatchTree;
import com.sun.source.tree.ClassTree;
import com.sun.source.tree.CompilationUnitTree;
import com.sun.source.tree.DoWhileLoopTree;
import com.sun.source.tree.ExpressionTree;
import com.sun.source.tree.ForLoopTree;
import com.sun.source.tree.LambdaExpressionTree;
import com.sun.source.tree.LiteralTree;
import com.sun.source.tree.MemberReferenceTree;
import com.sun.source.tree.MethodInvocationTree;
import com.sun.source.tree.MethodTree;
import com.sun.source.tree.NewArrayTree;
import com.sun.source.tree.NewClassTree;
import com.sun.source.tree.SynchronizedTree;
import com.sun.source.tree.ThrowTree;
import com.sun.source.tree.Tree;
import com.sun.source.tree.TryTree;
import com.sun.source.tree.TypeCastTree;
import com.sun.source.tree.VariableTree;
import com.sun.source.tree.WhileLoopTree;
import com.sun.source.util.JavacTask;
import com.sun.source.util.SourcePositions;
import com.sun.source.util.TreePathScanner;
import com.sun.source.util.Trees;
import java.io.IOException;
import java.nio.file.Path;
import java.util.HashMap;
import java.util.HashSet;
import java.util.List;
import java.util.Map;
import java.util.Set;
import java.util.TreeSet;
import javax.lang.model.element.Element;
import javax.lang.model.element.ElementKind;
import javax.lang.model.element.Modifier;
import javax.lang.model.type.TypeKind;
import javax.lang.model.type.TypeMirror;
import javax.tools.JavaCompiler;
import javax.tools.StandardJavaFileManager;
import javax.tools.ToolProvider;

/** ../shared/LANGUAGE.md, rule by rule, as far as the compiler's own tree of the class tells. */
public final class LanguageTest {
    private static final Path SOURCE = Path.of("src/main/java/WinkCircle.java");
    private static final Set<String> LIBRARY = Set.of("java.lang.Math.max", "java.lang.Math.min", "java.lang.Math.abs",
        "java.lang.Math.floorMod", "java.lang.Math.floorDiv", "java.lang.Integer.bitCount", "java.lang.Integer.compare",
        "java.lang.System.arraycopy", "java.util.Arrays.fill", "java.util.Arrays.copyOf", "java.util.Arrays.copyOfRange");
    private static final Set<TypeKind> NUMBERS = Set.of(TypeKind.INT, TypeKind.LONG, TypeKind.SHORT, TypeKind.BYTE,
        TypeKind.CHAR, TypeKind.BOOLEAN);
    private static final int MOST_LINES = 60, MOST_PARAMETERS = 7, MOST_DEEP = 8, MOST_CLASSES = 12, MOST_FIELDS = 20;

    private static final Check check = new Check("LanguageTest");

    public static void main(String[] args) throws IOException {
        JavaCompiler compiler = ToolProvider.getSystemJavaCompiler();
        try (StandardJavaFileManager files = compiler.getStandardFileManager(null, null, null)) {
            JavacTask task = (JavacTask) compiler.getTask(null, files, null, List.of("-proc:none"), null,
                files.getJavaFileObjects(SOURCE));
            for (CompilationUnitTree unit : task.parse()) {
                task.analyze();
                Reader reader = new Reader(Trees.instance(task), unit);
                reader.scan(unit, null);
                reader.conclude();
            }
        }
        check.end();
    }

    private static final class Reader extends TreePathScanner<Void, Void> {
        private final Trees trees;
        private final CompilationUnitTree unit;
        private final Map<Element, Set<Element>> calls = new HashMap<>();
        private final Set<String> faceNames = new HashSet<>();
        private final Set<Element> hidden = new HashSet<>();
        private final Map<Element, Integer> depths = new HashMap<>();
        private Element method;
        private int classes;

        Reader(Trees trees, CompilationUnitTree unit) {
            this.trees = trees;
            this.unit = unit;
            check.holds("no package line (the head)", unit.getPackage() == null);
            check.holds("no import: nothing of the library but what is always there", unit.getImports().isEmpty());
            check.due("one class in the file", unit.getTypeDecls().size(), 1);
        }

        private void rule(int number, String what, boolean so, Tree at) {
            long place = trees.getSourcePositions().getStartPosition(unit, at);
            check.holds("rule " + number + ", line " + unit.getLineMap().getLineNumber(place) + ": " + what, so);
        }

        private Element here() {
            return trees.getElement(getCurrentPath());
        }

        @Override
        public Void visitClass(ClassTree tree, Void none) {
            classes++;
            Element one = here();
            boolean nested = one.getEnclosingElement().getKind() == ElementKind.CLASS;
            rule(2, "no local or anonymous class", nested || classes == 1, tree);
            rule(2, "a class inside is static", !nested || one.getModifiers().contains(Modifier.STATIC), tree);
            rule(1, "a class inside is not public", !nested || !one.getModifiers().contains(Modifier.PUBLIC)
                && !one.getModifiers().contains(Modifier.PROTECTED), tree);
            int fields = 0;
            for (Tree member : tree.getMembers()) {
                rule(5, "no initialiser block", member.getKind() != Tree.Kind.BLOCK, member);
                boolean isField = member instanceof VariableTree v && !v.getModifiers().getFlags().contains(Modifier.STATIC);
                fields += isField ? 1 : 0;
            }
            rule(11, "at most some twenty fields", fields <= MOST_FIELDS, tree);
            return super.visitClass(tree, none);
        }

        @Override
        public Void visitMethod(MethodTree tree, Void none) {
            Element outer = method;
            method = here();
            calls.put(method, new HashSet<>());
            if (method.getModifiers().contains(Modifier.PUBLIC)) {
                faceNames.add(method.getSimpleName().toString());
            } else {
                hidden.add(method);
            }
            SourcePositions places = trees.getSourcePositions();
            long lines = unit.getLineMap().getLineNumber(places.getEndPosition(unit, tree))
                - unit.getLineMap().getLineNumber(places.getStartPosition(unit, tree)) + 1;
            rule(11, "short: " + method, lines <= MOST_LINES, tree);
            rule(11, "at most seven parameters: " + method, tree.getParameters().size() <= MOST_PARAMETERS, tree);
            rule(6, "no throws: " + method, tree.getThrows().isEmpty(), tree);
            super.visitMethod(tree, none);
            method = outer;
            return null;
        }

        @Override
        public Void visitVariable(VariableTree tree, Void none) {
            Element variable = here();
            rule(3, "a type that the rules leave: " + variable.asType(), isLeft(variable.asType(), 0), tree);
            if (variable.getKind() == ElementKind.FIELD && variable.getModifiers().contains(Modifier.STATIC)) {
                rule(5, "a static field is a final constant", variable.getModifiers().contains(Modifier.FINAL)
                    && tree.getInitializer() != null && !isOwn(variable.asType()), tree);
            }
            return super.visitVariable(tree, none);
        }

        private boolean isOwn(TypeMirror type) {
            return type.getKind() == TypeKind.DECLARED && type.toString().startsWith("WinkCircle");
        }

        private boolean isLeft(TypeMirror type, int dimensions) {
            if (type instanceof javax.lang.model.type.ArrayType array) {
                return isLeft(array.getComponentType(), dimensions + 1);
            }
            if (NUMBERS.contains(type.getKind())) {
                return dimensions <= 2;
            }
            return dimensions <= 1 && (isOwn(type) || type.toString().equals("java.lang.String") && dimensions == 0);
        }

        @Override
        public Void visitMethodInvocation(MethodInvocationTree tree, Void none) {
            Element called = here();
            String owner = called.getEnclosingElement().toString();
            boolean ofConstructor = called.getKind() == ElementKind.CONSTRUCTOR;
            if (owner.startsWith("WinkCircle")) {
                calls.get(method).add(called);
                rule(12, "a constructor calls no method", method.getKind() != ElementKind.CONSTRUCTOR, tree);
            } else if (!ofConstructor) {
                String name = owner + "." + called.getSimpleName();
                rule(4, "of the library only what is listed: " + name, LIBRARY.contains(name), tree);
            }
            return super.visitMethodInvocation(tree, none);
        }

        @Override
        public Void visitNewClass(NewClassTree tree, Void none) {
            rule(2, "no anonymous class", tree.getClassBody() == null, tree);
            rule(12, "made in constructors alone", method.getKind() == ElementKind.CONSTRUCTOR, tree);
            calls.get(method).add(here());
            return super.visitNewClass(tree, none);
        }

        @Override
        public Void visitNewArray(NewArrayTree tree, Void none) {
            rule(12, "made in constructors alone", method == null || method.getKind() == ElementKind.CONSTRUCTOR, tree);
            return super.visitNewArray(tree, none);
        }

        @Override
        public Void visitTypeCast(TypeCastTree tree, Void none) {
            TypeMirror to = trees.getTypeMirror(new com.sun.source.util.TreePath(getCurrentPath(), tree.getType()));
            rule(6, "a cast between numbers", NUMBERS.contains(to.getKind()), tree);
            return super.visitTypeCast(tree, none);
        }

        @Override
        public Void visitBinary(BinaryTree tree, Void none) {
            TypeMirror type = trees.getTypeMirror(getCurrentPath());
            rule(10, "texts are not joined by +", type.getKind() != TypeKind.DECLARED, tree);
            if (tree.getKind() == Tree.Kind.DIVIDE || tree.getKind() == Tree.Kind.REMAINDER) {
                rule(7, "no division by 0 that is written out", !"0".equals(tree.getRightOperand().toString()), tree);
            }
            return super.visitBinary(tree, none);
        }

        private void loop(Tree tree, ExpressionTree condition) {
            rule(9, "a loop has a bound", condition != null && !(condition instanceof LiteralTree), tree);
        }

        @Override
        public Void visitForLoop(ForLoopTree tree, Void none) {
            loop(tree, tree.getCondition());
            rule(9, "a loop by for counts", !tree.getUpdate().isEmpty(), tree);
            return super.visitForLoop(tree, none);
        }

        @Override
        public Void visitWhileLoop(WhileLoopTree tree, Void none) {
            loop(tree, tree.getCondition());
            return super.visitWhileLoop(tree, none);
        }

        @Override
        public Void visitDoWhileLoop(DoWhileLoopTree tree, Void none) {
            loop(tree, tree.getCondition());
            return super.visitDoWhileLoop(tree, none);
        }

        @Override
        public Void visitLambdaExpression(LambdaExpressionTree tree, Void none) {
            rule(2, "no lambda", false, tree);
            return null;
        }

        @Override
        public Void visitMemberReference(MemberReferenceTree tree, Void none) {
            rule(2, "no method reference", false, tree);
            return null;
        }

        @Override
        public Void visitThrow(ThrowTree tree, Void none) {
            rule(6, "no throw", false, tree);
            return null;
        }

        @Override
        public Void visitTry(TryTree tree, Void none) {
            rule(6, "no try", false, tree);
            return null;
        }

        @Override
        public Void visitCatch(CatchTree tree, Void none) {
            rule(6, "no catch", false, tree);
            return null;
        }

        @Override
        public Void visitSynchronized(SynchronizedTree tree, Void none) {
            rule(6, "no synchronized", false, tree);
            return null;
        }

        @Override
        public Void visitAssert(AssertTree tree, Void none) {
            rule(6, "no assert", false, tree);
            return null;
        }

        /** What only the whole file tells. */
        void conclude() {
            check.holds("rule 11: at most some twelve classes", classes <= MOST_CLASSES);
            for (Element one : hidden) {
                boolean clash = one.getKind() == ElementKind.METHOD && faceNames.contains(one.getSimpleName().toString());
                check.holds("rule 1: no hidden method bears a public name: " + one, !clash);
            }
            for (Element one : calls.keySet()) {
                boolean again = calls.get(one).contains(one);
                check.holds("rule 8: only a private static method calls itself: " + one, !again
                    || one.getModifiers().containsAll(Set.of(Modifier.PRIVATE, Modifier.STATIC)));
                check.holds("rule 11: calls go at most eight deep: " + one, depth(one, new TreeSet<>()) <= MOST_DEEP);
            }
        }

        /** How many calls stand open at once below this one, itself with them; a ring of several is far too deep. */
        private int depth(Element one, Set<String> open) {
            if (depths.containsKey(one)) {
                return depths.get(one);
            }
            String name = one.getEnclosingElement() + "." + one;
            if (!open.add(name)) {
                return MOST_DEEP + 1;
            }
            int deepest = 0;
            for (Element called : calls.getOrDefault(one, Set.of())) {
                deepest = called.equals(one) ? deepest : Math.max(deepest, depth(called, open));
            }
            open.remove(name);
            depths.put(one, deepest + 1);
            return deepest + 1;
        }
    }
}
