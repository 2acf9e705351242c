import com.sun.source.tree.ArrayAccessTree;
import com.sun.source.tree.ArrayTypeTree;
import com.sun.source.tree.BinaryTree;
import com.sun.source.tree.ClassTree;
import com.sun.source.tree.CompilationUnitTree;
import com.sun.source.tree.CompoundAssignmentTree;
import com.sun.source.tree.ConditionalExpressionTree;
import com.sun.source.tree.DoWhileLoopTree;
import com.sun.source.tree.ExpressionTree;
import com.sun.source.tree.ForLoopTree;
import com.sun.source.tree.IfTree;
import com.sun.source.tree.LambdaExpressionTree;
import com.sun.source.tree.MemberReferenceTree;
import com.sun.source.tree.MethodInvocationTree;
import com.sun.source.tree.MethodTree;
import com.sun.source.tree.NewArrayTree;
import com.sun.source.tree.NewClassTree;
import com.sun.source.tree.ThrowTree;
import com.sun.source.tree.Tree;
import com.sun.source.tree.TryTree;
import com.sun.source.tree.TypeCastTree;
import com.sun.source.tree.VariableTree;
import com.sun.source.tree.WhileLoopTree;
import com.sun.source.util.JavacTask;
import com.sun.source.util.TreePath;
import com.sun.source.util.TreePathScanner;
import com.sun.source.util.Trees;
import java.lang.reflect.Constructor;
import java.lang.reflect.Field;
import java.lang.reflect.Method;
import java.lang.reflect.Modifier;
import java.nio.charset.StandardCharsets;
import java.nio.file.Files;
import java.nio.file.Path;
import java.util.List;
import java.util.Map;
import java.util.Set;
import java.util.TreeMap;
import java.util.TreeSet;
import javax.lang.model.element.Element;
import javax.lang.model.element.ElementKind;
import javax.lang.model.type.TypeKind;
import javax.tools.JavaCompiler;
import javax.tools.StandardJavaFileManager;
import javax.tools.ToolProvider;

/** The rules of LANGUAGE.md that the class's text and face can be searched for. */
public final class LanguageTest {
    static final Path SOURCE = Path.of("src/main/java/LeastHungry.java");
    static final int MOST_PARAMETERS = 7, MOST_LINES = 60, DEEPEST = 8, MOST_CLASSES = 12, MOST_FIELDS = 20;
    static final List<String> FACE = List.of(
            "int guest(int,int,int,int)", "int leave(int)", "int keen(int)", "int feud(int,int,boolean)", "int say(int)",
            "int wipe()", "int fault()", "int judge(int)", "int done()", "int state(int,int)", "int behind(int,int)",
            "int waste(int)", "int served(int,int)", "int feign(int,int)", "int rests(int,int,int)",
            "int round(int,int,int,int)", "int rules(int,int,int,int)", "int seen(int,int)", "int forget()",
            "int worlds(int,int)", "int tells(int)", "int portions(int,int)", "int seats(int,int)",
            "long belch(int,int,int,int)", "int host()", "int year(int,int,int)", "int image(int)", "int restore(int)",
            "int told(int)");
    static final Set<String> CONSTANTS = Set.of("NONE", "UNKNOWN", "OUTSIDE", "STATE", "FULL", "NO", "LOST");
    static final Set<String> LIBRARY = Set.of("java.lang.System.arraycopy", "java.util.Arrays.fill", "java.lang.Math.min",
            "java.lang.Math.max", "java.lang.Integer.bitCount", "java.lang.Object.<init>");

    static final Set<String> TYPES = Set.of("int", "long", "boolean", "int[]");

    static int wrong = 0;

    static void must(boolean is, String what) {
        if (!is) {
            wrong++;
            System.out.println(what);
        }
    }

    public static void main(String[] args) throws Exception {
        face();
        characters();
        Scan scan = new Scan();
        scan.read();
        must(scan.classes <= MOST_CLASSES, "rule 11: " + scan.classes + " classes");
        for (String method : scan.calls.keySet()) {
            depth(scan.calls, method, new TreeSet<>());
        }
        System.out.println(wrong == 0 ? "the language is kept to" : wrong + " faults against the language");
        if (wrong != 0) {
            System.exit(1);
        }
    }

    static void face() {
        Class<?> c = LeastHungry.class;
        must(Modifier.isPublic(c.getModifiers()) && Modifier.isFinal(c.getModifiers()), "rule 1: public and final");
        Set<String> found = new TreeSet<>();
        for (Method m : c.getDeclaredMethods()) {
            if (!Modifier.isPrivate(m.getModifiers())) {
                String full = m.toGenericString();
                found.add(full.replace("public ", "").replace("LeastHungry.", ""));
            }
        }
        must(found.equals(new TreeSet<>(FACE)), "rule 1: the face is " + found);
        for (Constructor<?> k : c.getDeclaredConstructors()) {
            must(Modifier.isPublic(k.getModifiers()) && k.getParameterCount() == 0, "rule 1: " + k);
        }
        Set<String> constants = new TreeSet<>();
        for (Field f : c.getDeclaredFields()) {
            must(!Modifier.isStatic(f.getModifiers()) || Modifier.isFinal(f.getModifiers()), "rule 5: " + f);
            if (!Modifier.isPrivate(f.getModifiers())) {
                constants.add(f.getName());
            }
        }
        must(constants.equals(new TreeSet<>(CONSTANTS)), "rule 1: the constants are " + constants);
    }

    static void characters() throws Exception {
        String text = Files.readString(SOURCE, StandardCharsets.ISO_8859_1);
        must(text.chars().allMatch(c -> c >= 1 && c <= 127), "rule 4: a sign above 127");
        must(!text.contains("package "), "a package line");
    }

    /** How many calls stand open under a method, its own among them. */
    static int depth(Map<String, Set<String>> calls, String method, Set<String> open) {
        if (!open.add(method)) {
            must(false, "rule 8: a recursion through " + method);
            return 0;
        }
        int deepest = 0;
        for (String called : calls.getOrDefault(method, Set.of())) {
            deepest = Math.max(deepest, depth(calls, called, open));
        }
        open.remove(method);
        must(deepest + 1 <= DEEPEST, "rule 11: calls go " + (deepest + 1) + " deep under " + method);
        return deepest + 1;
    }

    static final class Scan extends TreePathScanner<Void, Void> {
        final Map<String, Set<String>> calls = new TreeMap<>();
        int classes = 0;
        private Trees trees;
        private CompilationUnitTree unit;
        private String method = "";

        void read() throws Exception {
            JavaCompiler compiler = ToolProvider.getSystemJavaCompiler();
            StandardJavaFileManager files = compiler.getStandardFileManager(null, null, null);
            JavacTask task = (JavacTask) compiler.getTask(null, files, null, null, null, files.getJavaFileObjects(SOURCE));
            Iterable<? extends CompilationUnitTree> units = task.parse();
            task.analyze();
            trees = Trees.instance(task);
            for (CompilationUnitTree u : units) {
                unit = u;
                must(u.getPackage() == null, "a package line");
                scan(u, null);
            }
        }

        private long line(long position) {
            return unit.getLineMap().getLineNumber(position);
        }

        private void refuse(String rule, Tree tree) {
            must(false, rule + ", line " + line(trees.getSourcePositions().getStartPosition(unit, tree)));
        }

        @Override
        public Void visitClass(ClassTree tree, Void none) {
            classes++;
            int fields = 0;
            for (Tree member : tree.getMembers()) {
                if (member.getKind() == Tree.Kind.BLOCK) {
                    refuse("rule 5: an initialiser block", member);
                }
                if (member instanceof VariableTree && !((VariableTree) member).getModifiers().toString().contains("static")) {
                    fields++;
                }
            }
            must(fields <= MOST_FIELDS, "rule 11: " + fields + " fields in " + tree.getSimpleName());
            if (classes > 1) {
                must(tree.getModifiers().toString().contains("static"), "rule 1: not static: " + tree.getSimpleName());
            }
            return super.visitClass(tree, none);
        }

        @Override
        public Void visitMethod(MethodTree tree, Void none) {
            Element element = trees.getElement(getCurrentPath());
            String before = method;
            method = nameOf(element);
            calls.computeIfAbsent(method, m -> new TreeSet<>());
            must(tree.getParameters().size() <= MOST_PARAMETERS, "rule 11: parameters of " + method);
            long first = trees.getSourcePositions().getStartPosition(unit, tree);
            long last = trees.getSourcePositions().getEndPosition(unit, tree);
            must(last < 0 || line(last) - line(first) < MOST_LINES, "rule 11: lines of " + method);
            String simple = tree.getName().toString();
            boolean isOfFace = FACE.stream().anyMatch(f -> f.contains(" " + simple + "("));
            must(!isOfFace || method.equals("LeastHungry." + simple), "rule 1: the name of a public one: " + method);
            super.visitMethod(tree, none);
            method = before;
            return null;
        }

        private static String nameOf(Element element) {
            return element.getEnclosingElement() + "." + element.getSimpleName();
        }

        @Override
        public Void visitMethodInvocation(MethodInvocationTree tree, Void none) {
            Element element = trees.getElement(getCurrentPath());
            String called = nameOf(element);
            must(called.startsWith("LeastHungry") || called.startsWith("java.lang.Object.") || LIBRARY.contains(called)
                    || called.endsWith(".super"), "rule 4: " + called);
            calls.computeIfAbsent(method, m -> new TreeSet<>()).add(called);
            return super.visitMethodInvocation(tree, none);
        }

        @Override
        public Void visitNewClass(NewClassTree tree, Void none) {
            must(method.isEmpty(), "the room: an object made in " + method);
            return super.visitNewClass(tree, none);
        }

        @Override
        public Void visitNewArray(NewArrayTree tree, Void none) {
            must(method.isEmpty(), "the room: an array made in " + method);
            return super.visitNewArray(tree, none);
        }

        @Override
        public Void visitVariable(VariableTree tree, Void none) {
            Element element = trees.getElement(getCurrentPath());
            boolean isStatic = element.getModifiers().toString().contains("static");
            must(!isStatic || element.getModifiers().toString().contains("final"), "rule 5: " + tree);
            must(element.getKind() != ElementKind.EXCEPTION_PARAMETER, "rule 6: " + tree);
            String type = element.asType().toString();
            must(TYPES.contains(type) || type.startsWith("LeastHungry."), "rule 3: " + tree);
            return super.visitVariable(tree, none);
        }

        @Override
        public Void visitBinary(BinaryTree tree, Void none) {
            boolean isDivision = tree.getKind() == Tree.Kind.DIVIDE || tree.getKind() == Tree.Kind.REMAINDER;
            String divisor = tree.getRightOperand().toString();
            boolean isNumber = divisor.matches("[1-9][0-9]*|[A-Z_]+|\\(MOST_FEINT \\+ 1\\)|base");
            must(!isDivision || isNumber, "rule 7: a divisor that nothing tells to be above 0: " + tree);
            boolean isBits = tree.getKind() == Tree.Kind.AND || tree.getKind() == Tree.Kind.OR || tree.getKind() == Tree.Kind.XOR;
            must(!isBits || isNumber(tree.getLeftOperand()), "rule 10: bits of what is no number: " + tree);
            return super.visitBinary(tree, none);
        }

        private boolean isNumber(Tree operand) {
            TypeKind kind = trees.getTypeMirror(new TreePath(getCurrentPath(), operand)).getKind();
            return kind == TypeKind.INT || kind == TypeKind.LONG;
        }

        @Override
        public Void visitCompoundAssignment(CompoundAssignmentTree tree, Void none) {
            must(isNumber(tree.getVariable()), "rule 10: arithmetic of what is no number: " + tree);
            return super.visitCompoundAssignment(tree, none);
        }

        @Override
        public Void visitArrayAccess(ArrayAccessTree tree, Void none) {
            String row = tree.getExpression().toString();
            String index = tree.getIndex().toString();
            boolean isLookedAt = false;
            for (TreePath path = getCurrentPath(); path != null; path = path.getParentPath()) {
                isLookedAt |= bounds(path.getLeaf(), row, index);
            }
            must(isLookedAt, "rule 7: an index that is not looked at: " + tree);
            return super.visitArrayAccess(tree, none);
        }

        /** Whether a loop runs over just the row's places, or a condition asks for one of them. */
        private static boolean bounds(Tree tree, String row, String index) {
            if (tree instanceof ForLoopTree) {
                ForLoopTree loop = (ForLoopTree) tree;
                String from = loop.getInitializer().toString();
                String to = loop.getCondition().toString();
                boolean isUp = from.matches("int " + index + " = [01]") && to.equals(index + " < " + row + ".length");
                boolean isDown = from.equals("int " + index + " = " + row + ".length - 1") && to.startsWith(index + " >= 0");
                return isUp || isDown;
            }
            String asked = index + " >= 0 && " + index + " < " + row + ".length";
            if (tree instanceof IfTree) {
                return isJust(((IfTree) tree).getCondition(), asked);
            }
            return tree instanceof ConditionalExpressionTree && isJust(((ConditionalExpressionTree) tree).getCondition(), asked);
        }

        private static boolean isJust(ExpressionTree condition, String asked) {
            return condition.toString().replaceAll("^\\(|\\)$", "").equals(asked);
        }

        @Override
        public Void visitForLoop(ForLoopTree tree, Void none) {
            must(tree.getCondition() != null && !tree.getUpdate().isEmpty(), "rule 9: no counter against a bound: " + tree);
            return super.visitForLoop(tree, none);
        }

        @Override
        public Void visitWhileLoop(WhileLoopTree tree, Void none) {
            refuse("rule 9: a loop without a counter of its own", tree);
            return null;
        }

        @Override
        public Void visitDoWhileLoop(DoWhileLoopTree tree, Void none) {
            refuse("rule 9: a loop without a counter of its own", tree);
            return null;
        }

        @Override
        public Void visitTypeCast(TypeCastTree tree, Void none) {
            refuse("rule 6: nothing is there to cast", tree);
            return null;
        }

        @Override
        public Void visitLambdaExpression(LambdaExpressionTree tree, Void none) {
            refuse("rule 2: a lambda", tree);
            return null;
        }

        @Override
        public Void visitMemberReference(MemberReferenceTree tree, Void none) {
            refuse("rule 2: a method reference", tree);
            return null;
        }

        @Override
        public Void visitThrow(ThrowTree tree, Void none) {
            refuse("rule 6: the document wants no exception", tree);
            return null;
        }

        @Override
        public Void visitTry(TryTree tree, Void none) {
            refuse("rule 6: nothing is there to catch", tree);
            return null;
        }

        @Override
        public Void visitArrayType(ArrayTypeTree tree, Void none) {
            must(tree.getType().getKind() == Tree.Kind.PRIMITIVE_TYPE, "rule 3: " + tree);
            return super.visitArrayType(tree, none);
        }
    }
}
