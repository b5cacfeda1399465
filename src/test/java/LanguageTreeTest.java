import com.sun.source.tree.AssertTree;
import com.sun.source.tree.BinaryTree;
import com.sun.source.tree.ClassTree;
import com.sun.source.tree.CompilationUnitTree;
import com.sun.source.tree.CompoundAssignmentTree;
import com.sun.source.tree.LambdaExpressionTree;
import com.sun.source.tree.MemberReferenceTree;
import com.sun.source.tree.MethodInvocationTree;
import com.sun.source.tree.MethodTree;
import com.sun.source.tree.NewArrayTree;
import com.sun.source.tree.NewClassTree;
import com.sun.source.tree.ThrowTree;
import com.sun.source.tree.Tree;
import com.sun.source.tree.TryTree;
import com.sun.source.tree.TypeCastTree;
import com.sun.source.tree.VariableTree;
import com.sun.source.util.JavacTask;
import com.sun.source.util.TreePath;
import com.sun.source.util.TreePathScanner;
import com.sun.source.util.Trees;
import java.io.IOException;
import java.nio.file.Path;
import java.util.ArrayList;
import java.util.HashMap;
import java.util.HashSet;
import java.util.List;
import java.util.Map;
import java.util.Set;
import java.util.TreeMap;
import java.util.TreeSet;
import javax.lang.model.element.Element;
import javax.lang.model.element.ElementKind;
import javax.lang.model.element.ExecutableElement;
import javax.lang.model.element.Modifier;
import javax.lang.model.type.TypeMirror;
import javax.tools.JavaCompiler;
import javax.tools.StandardJavaFileManager;
import javax.tools.ToolProvider;

/** What of LANGUAGE.md wants the compiler's own reading of the class: calls, types, what is made where. */
public final class LanguageTreeTest {
    private static final int DEEPEST = 8;
    private static final Set<String> LIBRARY = Set.of("java.lang.String.length()", "java.lang.String.charAt(int)",
        "java.lang.Math.max(int,int)", "java.lang.Math.min(int,int)", "java.lang.Math.abs(int)",
        "java.lang.Integer.bitCount(int)", "java.lang.Object.Object()",
        "java.lang.System.arraycopy(java.lang.Object,int,java.lang.Object,int,int)");

    private final Map<String, Set<String>> calls = new TreeMap<>();
    private final Set<String> open = new TreeSet<>();
    private final Map<String, Integer> depths = new HashMap<>();
    private int classes = 0;

    public static void main(String[] args) throws IOException {
        new LanguageTreeTest().read(Path.of(args.length > 0 ? args[0] : "src/main/java/EverybodyHasTheBook.java"));
        Due.end();
    }

    private void read(Path file) throws IOException {
        JavaCompiler compiler = ToolProvider.getSystemJavaCompiler();
        Due.holds("a compiler is there", compiler != null);
        if (compiler == null) {
            return;
        }
        try (StandardJavaFileManager files = compiler.getStandardFileManager(null, null, null)) {
            JavacTask task = (JavacTask) compiler.getTask(null, files, null, List.of("-proc:none"), null,
                files.getJavaFileObjects(file));
            List<CompilationUnitTree> units = new ArrayList<>();
            task.parse().forEach(units::add);
            task.analyze();
            for (CompilationUnitTree unit : units) {
                new Reader(Trees.instance(task)).scan(unit, null);
            }
        }
        Due.holds("11: some twelve classes", classes <= 12);
        Due.is("the methods of the face", open.size(), 57);
        for (String call : open) {
            Due.holds("11: at most eight deep: " + call + " goes " + depth(call, new HashSet<>()),
                depth(call, new HashSet<>()) <= DEEPEST);
        }
    }

    /** How many calls stand open at once; the library's own count as one. */
    private int depth(String call, Set<String> above) {
        if (depths.containsKey(call)) {
            return depths.get(call);
        }
        Due.holds("8: no method calls itself: " + call, above.add(call));
        int deepest = 0;
        for (String next : calls.getOrDefault(call, Set.of())) {
            deepest = above.contains(next) ? Integer.MAX_VALUE / 2 : Math.max(deepest, depth(next, above));
        }
        above.remove(call);
        depths.put(call, deepest + 1);
        return deepest + 1;
    }

    private final class Reader extends TreePathScanner<Void, Void> {
        private final Trees trees;
        private String method = "";
        private boolean making = true;

        Reader(Trees trees) {
            this.trees = trees;
        }

        private Element element() {
            return trees.getElement(getCurrentPath());
        }

        private String at(Tree tree) {
            return " in " + method + ": " + tree;
        }

        private String told(Element e) {
            return e.getEnclosingElement() + "." + e;
        }

        private boolean isText(TypeMirror type) {
            return type != null && type.toString().equals("java.lang.String");
        }

        @Override
        public Void visitClass(ClassTree tree, Void none) {
            classes++;
            Element inside = element();
            boolean top = inside.getEnclosingElement().getKind() == ElementKind.PACKAGE;
            Due.holds("2: static, and no local class: " + inside,
                top || inside.getModifiers().contains(Modifier.STATIC) && !inside.getSimpleName().contentEquals(""));
            int fields = 0;
            for (Element e : inside.getEnclosedElements()) {
                boolean constant = e.getModifiers().contains(Modifier.STATIC);
                fields += e.getKind() == ElementKind.FIELD && !constant ? 1 : 0;
            }
            Due.holds("11: some twenty fields: " + inside, fields <= 20);
            String around = method;
            super.visitClass(tree, none);
            method = around;
            return null;
        }

        @Override
        public Void visitMethod(MethodTree tree, Void none) {
            Element e = element();
            String around = method;
            method = told(e);
            making = e.getKind() == ElementKind.CONSTRUCTOR;
            calls.computeIfAbsent(method, m -> new TreeSet<>());
            Due.holds("11: seven parameters" + at(tree), tree.getParameters().size() <= 7);
            if (e.getKind() == ElementKind.METHOD && e.getModifiers().contains(Modifier.PUBLIC)) {
                open.add(method);
            }
            super.visitMethod(tree, none);
            method = around;
            making = true;
            return null;
        }

        @Override
        public Void visitVariable(VariableTree tree, Void none) {
            Element e = element();
            String type = e.asType().toString();
            boolean ofNumbers = type.matches("(int|long|short|byte|char|boolean)(\\[\\])?(\\[\\])?");
            boolean ofMine = type.matches("EverybodyHasTheBook(\\.\\w+)?(\\[\\])?");
            Due.holds("3: the type " + type + at(tree), ofNumbers || ofMine || type.equals("java.lang.String"));
            if (e.getKind() == ElementKind.FIELD && e.getModifiers().contains(Modifier.STATIC)) {
                Due.holds("5: final" + at(tree), e.getModifiers().contains(Modifier.FINAL));
                Due.holds("5: a constant" + at(tree), type.matches("int|long|boolean|char|java.lang.String"));
            }
            return super.visitVariable(tree, none);
        }

        @Override
        public Void visitMethodInvocation(MethodInvocationTree tree, Void none) {
            Element e = trees.getElement(new TreePath(getCurrentPath(), tree.getMethodSelect()));
            Due.holds("a call of a method" + at(tree), e instanceof ExecutableElement);
            String called = told(e);
            Due.holds("4: " + called, called.startsWith("EverybodyHasTheBook") || LIBRARY.contains(called));
            boolean opensObject = called.equals("java.lang.Object.Object()");
            if (!opensObject && !method.isEmpty()) {
                Due.holds("12: no call in a constructor" + at(tree), !making);
                calls.get(method).add(called);
            }
            return super.visitMethodInvocation(tree, none);
        }

        @Override
        public Void visitNewClass(NewClassTree tree, Void none) {
            Due.holds("the ONE room: nothing is made by a call" + at(tree), making);
            Due.holds("2: no anonymous class" + at(tree), tree.getClassBody() == null);
            return super.visitNewClass(tree, none);
        }

        @Override
        public Void visitNewArray(NewArrayTree tree, Void none) {
            Due.holds("the ONE room: no array is made by a call" + at(tree), making);
            Due.holds("3: of one dimension, without elements" + at(tree),
                tree.getDimensions().size() == 1 && tree.getInitializers() == null);
            return super.visitNewArray(tree, none);
        }

        @Override
        public Void visitBinary(BinaryTree tree, Void none) {
            Due.holds("10: no text is joined by +" + at(tree), !isText(trees.getTypeMirror(getCurrentPath())));
            TreePath left = new TreePath(getCurrentPath(), tree.getLeftOperand());
            Due.holds("6: no == between texts" + at(tree), !isText(trees.getTypeMirror(left)));
            return super.visitBinary(tree, none);
        }

        @Override
        public Void visitCompoundAssignment(CompoundAssignmentTree tree, Void none) {
            Due.holds("10: no text is joined by +=" + at(tree), !isText(trees.getTypeMirror(getCurrentPath())));
            return super.visitCompoundAssignment(tree, none);
        }

        @Override
        public Void visitTypeCast(TypeCastTree tree, Void none) {
            TypeMirror to = trees.getTypeMirror(getCurrentPath());
            Due.holds("7: a cast of numbers alone" + at(tree), to.getKind().isPrimitive());
            return super.visitTypeCast(tree, none);
        }

        @Override
        public Void visitLambdaExpression(LambdaExpressionTree tree, Void none) {
            Due.holds("2: no lambda" + at(tree), false);
            return null;
        }

        @Override
        public Void visitMemberReference(MemberReferenceTree tree, Void none) {
            Due.holds("2: no method reference" + at(tree), false);
            return null;
        }

        @Override
        public Void visitThrow(ThrowTree tree, Void none) {
            Due.holds("6: no throw" + at(tree), false);
            return null;
        }

        @Override
        public Void visitTry(TryTree tree, Void none) {
            Due.holds("6: no try" + at(tree), false);
            return null;
        }

        @Override
        public Void visitAssert(AssertTree tree, Void none) {
            Due.holds("6: no assert" + at(tree), false);
            return null;
        }
    }
}
