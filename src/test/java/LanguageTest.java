import com.sun.source.tree.ArrayAccessTree;
import com.sun.source.tree.AssertTree;
import com.sun.source.tree.AssignmentTree;
import com.sun.source.tree.BinaryTree;
import com.sun.source.tree.ClassTree;
import com.sun.source.tree.CompilationUnitTree;
import com.sun.source.tree.CompoundAssignmentTree;
import com.sun.source.tree.DoWhileLoopTree;
import com.sun.source.tree.EnhancedForLoopTree;
import com.sun.source.tree.ExpressionTree;
import com.sun.source.tree.ForLoopTree;
import com.sun.source.tree.IdentifierTree;
import com.sun.source.tree.LambdaExpressionTree;
import com.sun.source.tree.MemberReferenceTree;
import com.sun.source.tree.MemberSelectTree;
import com.sun.source.tree.MethodInvocationTree;
import com.sun.source.tree.MethodTree;
import com.sun.source.tree.NewArrayTree;
import com.sun.source.tree.NewClassTree;
import com.sun.source.tree.SynchronizedTree;
import com.sun.source.tree.ThrowTree;
import com.sun.source.tree.Tree;
import com.sun.source.tree.TryTree;
import com.sun.source.tree.TypeCastTree;
import com.sun.source.tree.VariableTree;
import com.sun.source.tree.WhileLoopTree;
import com.sun.source.util.JavacTask;
import com.sun.source.util.TreePath;
import com.sun.source.util.TreePathScanner;
import com.sun.source.util.Trees;
import java.io.IOException;
import java.nio.file.Files;
import java.nio.file.Path;
import java.util.ArrayDeque;
import java.util.Deque;
import java.util.HashSet;
import java.util.LinkedHashMap;
import java.util.LinkedHashSet;
import java.util.List;
import java.util.Map;
import java.util.Set;
import java.util.regex.Pattern;
import javax.lang.model.element.Element;
import javax.lang.model.element.ElementKind;
import javax.lang.model.element.ExecutableElement;
import javax.lang.model.element.Modifier;
import javax.lang.model.element.TypeElement;
import javax.lang.model.type.ArrayType;
import javax.lang.model.type.TypeKind;
import javax.lang.model.type.TypeMirror;
import javax.lang.model.util.Elements;
import javax.tools.JavaCompiler;
import javax.tools.StandardJavaFileManager;
import javax.tools.ToolProvider;

/** The rules of LANGUAGE.md that can be read off the class as javac understands it; each is told by its number. */
public final class LanguageTest {
    private static final Path SOURCE = Path.of("src", "main", "java", "NumberPile.java");
    private static final int MOST_DEEP = 8;
    /** Those of rule 4, as far as the class needs them; more of them may be added as rule 4 has them. */
    private static final Set<String> LIBRARY = Set.of("Object()", "String.length()", "String.charAt(int)",
        "String.isEmpty()", "String.indexOf(int)", "StringBuilder()", "StringBuilder.append(char)",
        "StringBuilder.charAt(int)", "StringBuilder.setLength(int)", "StringBuilder.length()",
        "StringBuilder.toString()", "Math.max(int,int)", "Math.min(int,int)", "Math.abs(int)", "Arrays.fill(int[],int)",
        "System.arraycopy(java.lang.Object,int,java.lang.Object,int,int)");
    private static final Pattern LIBRARY_TYPES = Pattern.compile("java\\.lang\\.(String|StringBuilder)");

    private final String source;
    private final Set<String> wrong = new LinkedHashSet<>();
    private final Map<ExecutableElement, Set<ExecutableElement>> calls = new LinkedHashMap<>();
    private final Set<String> fullArrays = new HashSet<>();
    private CompilationUnitTree unit;
    private Trees trees;
    private Elements elements;

    private LanguageTest(String source) {
        this.source = source;
    }

    public static void main(String[] args) throws IOException {
        String text = Files.readString(SOURCE);
        Set<String> wrong = new LanguageTest(text).found();
        wrong.forEach(System.out::println);
        int missed = missedFaults(text);
        System.out.println(wrong.size() + " things against the rules, " + missed + " faults not found out");
        if (!wrong.isEmpty() || missed != 0) {
            System.exit(1);
        }
    }

    /** Puts faults into the text, one by one: a test that finds nothing anywhere would say nothing of the class. */
    private static int missedFaults(String text) throws IOException {
        String[][] faults = {
            {"3", "private int reads;", "private Object any;\n    private int reads;"},
            {"4", "Math.abs(left - right)", "Math.absExact(left - right)"},
            {"4", "letters.setLength(0);", "letters.insert(0, 'a');"},
            {"6", "return Math.max(left, right);", "return left > right ? left : ((Integer) right).intValue();"},
            {"7", "return Math.max(greater, 1);", "return one / other;"},
            {"7", "Sight sight = now.seen[place];", "Sight sight = now.seen[place]; now.seen[place].isOf(brick);"},
            {"8", "return left + right;", "return left > 9 ? made(right, left) : left + right;"},
            {"9", "reads++;", "while (reads < 0) { reads++; }"},
            {"9", "for (int number : now.told) {", "for (int number = 0; ; number++) {"},
            {"11", "sum += value;", "sum += one(value);"},
            {"12", "int nearest = NONE;", "int nearest = new int[2][2].length;"},
            {"12", "values[at]++;", "values[at]++; new StringBuilder();"},
            {"12", "setLeftBelow();\n        }", "setLeftBelow(); new Last().made(1, 2); kindsOf(this);\n        }"},
        };
        String deep = "int one(int n) { return two(n); }\n int two(int n) { return three(n); }\n"
            + "int three(int n) { return four(n); }\n int four(int n) { return five(n); }\n"
            + "int five(int n) { return six(n); }\n int six(int n) { return Math.abs(n); }\n"
            + "static void kindsOf(Pile pile) { }\n int sum() {";
        String ready = text.replace("int sum() {", deep);
        int missed = new LanguageTest(ready).found().size();
        for (String[] fault : faults) {
            boolean isFound = false;
            for (String what : new LanguageTest(ready.replace(fault[1], fault[2])).found()) {
                isFound |= what.startsWith("rule " + fault[0] + ":");
            }
            if (!isFound || !text.contains(fault[1])) {
                missed++;
                System.out.println("not found out, rule " + fault[0] + ": " + fault[2]);
            }
        }
        return missed;
    }

    private Set<String> found() throws IOException {
        Path folder = Files.createTempDirectory("language");
        Path file = Files.writeString(folder.resolve("NumberPile.java"), source);
        JavaCompiler compiler = ToolProvider.getSystemJavaCompiler();
        try (StandardJavaFileManager files = compiler.getStandardFileManager(null, null, null)) {
            JavacTask task = (JavacTask) compiler.getTask(null, files, problem -> { },
                List.of("--release", "17", "-proc:none"), null, files.getJavaFileObjects(file));
            unit = task.parse().iterator().next();
            task.analyze();
            trees = Trees.instance(task);
            elements = task.getElements();
            new FullArrays().scan(unit, null);
            new Walk().scan(unit, null);
            depths();
        } finally {
            Files.delete(file);
            Files.delete(folder);
        }
        return wrong;
    }

    private void hold(int rule, boolean holds, Tree tree) {
        if (!holds) {
            wrong.add("rule " + rule + ": " + tree.toString().trim().split("\n")[0]);
        }
    }

    private boolean isOwn(Element element) {
        Element outer = element;
        while (outer != null && outer.getKind() != ElementKind.PACKAGE) {
            if (outer.getSimpleName().contentEquals("NumberPile")) {
                return true;
            }
            outer = outer.getEnclosingElement();
        }
        return false;
    }

    private boolean isAllowed(TypeMirror type, int dimensions) {
        if (type.getKind() == TypeKind.ARRAY) {
            return isAllowed(((ArrayType) type).getComponentType(), dimensions + 1);
        }
        if (type.getKind().isPrimitive() || type.getKind() == TypeKind.VOID) {
            return dimensions <= 2;
        }
        String name = type.toString();
        return dimensions == 0 && LIBRARY_TYPES.matcher(name).matches() || dimensions <= 1 && name.startsWith("NumberPile");
    }

    /** Rules 8 and 11: who calls whom, from each method of the face down. */
    private void depths() {
        for (ExecutableElement method : calls.keySet()) {
            if (method.getModifiers().contains(Modifier.PUBLIC)) {
                int deep = depth(method, new ArrayDeque<>());
                if (deep > MOST_DEEP) {
                    wrong.add("rule 11: " + method + " goes " + deep + " deep");
                }
            }
        }
    }

    private int depth(ExecutableElement method, Deque<ExecutableElement> open) {
        if (open.contains(method)) {
            Set<Modifier> modifiers = method.getModifiers();
            boolean callsItself = open.peek().equals(method) && modifiers.contains(Modifier.PRIVATE)
                && modifiers.contains(Modifier.STATIC);
            if (!callsItself) {
                wrong.add("rule 8: " + method + " comes back to itself");
            }
            return 0;
        }
        open.push(method);
        int deepest = 0;
        for (ExecutableElement called : calls.getOrDefault(method, Set.of())) {
            deepest = Math.max(deepest, depth(called, open));
        }
        open.pop();
        return 1 + deepest;
    }

    /** Names of arrays of own classes that are written out where they are made, so that no element is missing. */
    private final class FullArrays extends TreePathScanner<Void, Void> {
        private final Set<String> others = new HashSet<>();

        @Override
        public Void visitCompilationUnit(CompilationUnitTree tree, Void none) {
            super.visitCompilationUnit(tree, none);
            fullArrays.removeAll(others);
            return null;
        }

        @Override
        public Void visitAssignment(AssignmentTree tree, Void none) {
            String name = lastName(tree.getVariable());
            if (tree.getExpression() instanceof NewArrayTree made) {
                (made.getInitializers() == null ? others : fullArrays).add(name);
            }
            if (tree.getVariable() instanceof ArrayAccessTree access) {
                others.add(lastName(access.getExpression()));
            }
            return super.visitAssignment(tree, none);
        }
    }

    private static String lastName(Tree tree) {
        String text = tree.toString();
        return text.substring(text.lastIndexOf('.') + 1);
    }

    private final class Walk extends TreePathScanner<Void, Void> {
        private ExecutableElement method;
        private boolean isConstructor;
        private int loops;

        @Override
        public Void scan(Tree tree, Void none) {
            boolean isForbidden = tree instanceof ThrowTree || tree instanceof TryTree || tree instanceof SynchronizedTree
                || tree instanceof AssertTree || tree instanceof LambdaExpressionTree
                || tree instanceof MemberReferenceTree;
            if (isForbidden) {
                hold(6, false, tree);
            }
            return super.scan(tree, none);
        }

        @Override
        public Void visitMethod(MethodTree tree, Void none) {
            ExecutableElement outer = method;
            method = (ExecutableElement) trees.getElement(getCurrentPath());
            isConstructor = method.getKind() == ElementKind.CONSTRUCTOR;
            calls.putIfAbsent(method, new LinkedHashSet<>());
            hold(3, isAllowed(method.getReturnType(), 0), tree);
            super.visitMethod(tree, none);
            method = outer;
            isConstructor = false;
            return null;
        }

        @Override
        public Void visitVariable(VariableTree tree, Void none) {
            hold(3, isAllowed(trees.getTypeMirror(getCurrentPath()), 0), tree);
            return super.visitVariable(tree, none);
        }

        @Override
        public Void visitMethodInvocation(MethodInvocationTree tree, Void none) {
            if (trees.getElement(getCurrentPath()) instanceof ExecutableElement called) {
                boolean isBySuper = tree.getMethodSelect().toString().startsWith("super");
                take(called, tree, isBySuper);
                if (isConstructor && isOwn(called) && !isBySuper) {
                    hold(12, cannotBeOverridden(called), tree);
                }
            }
            for (ExpressionTree given : tree.getArguments()) {
                hold(12, !isConstructor || !given.toString().equals("this"), tree);
            }
            return super.visitMethodInvocation(tree, none);
        }

        @Override
        public Void visitNewClass(NewClassTree tree, Void none) {
            hold(12, loops == 0, tree);
            hold(2, tree.getClassBody() == null, tree);
            for (ExpressionTree given : tree.getArguments()) {
                hold(12, !isConstructor || !given.toString().equals("this"), tree);
            }
            if (trees.getElement(getCurrentPath()) instanceof ExecutableElement called) {
                take(called, tree, true);
            }
            return super.visitNewClass(tree, none);
        }

        /** Rows are made in constructors and used again. */
        @Override
        public Void visitNewArray(NewArrayTree tree, Void none) {
            hold(12, (isConstructor || method == null) && loops == 0, tree);
            return super.visitNewArray(tree, none);
        }

        private void take(ExecutableElement called, Tree tree, boolean isThisOneAlone) {
            // what a field is made with is of no method
            Set<ExecutableElement> reached = method == null ? new LinkedHashSet<>() : calls.get(method);
            reached.add(called);
            if (isOwn(called)) {
                reached.addAll(isThisOneAlone ? Set.of() : overriding(called));
                return;
            }
            String type = called.getEnclosingElement().getSimpleName().toString().replace("AbstractString", "String");
            boolean isMaking = called.getKind() == ElementKind.CONSTRUCTOR;
            String name = isMaking ? type + called.toString().replaceFirst("^[^(]*", "") : type + "." + called;
            hold(4, LIBRARY.contains(name), tree);
        }

        private Set<ExecutableElement> overriding(ExecutableElement called) {
            Set<ExecutableElement> found = new LinkedHashSet<>();
            for (Tree declared : unit.getTypeDecls()) {
                for (Tree member : ((ClassTree) declared).getMembers()) {
                    if (member instanceof ClassTree inside) {
                        addOverriding(called, (TypeElement) trees.getElement(trees.getPath(unit, inside)), found);
                    }
                }
            }
            return found;
        }

        private void addOverriding(ExecutableElement called, TypeElement type, Set<ExecutableElement> found) {
            for (Element member : type.getEnclosedElements()) {
                if (member instanceof ExecutableElement other && elements.overrides(other, called, type)) {
                    found.add(other);
                }
            }
        }

        private boolean cannotBeOverridden(ExecutableElement called) {
            Set<Modifier> modifiers = called.getModifiers();
            return modifiers.contains(Modifier.PRIVATE) || modifiers.contains(Modifier.STATIC)
                || modifiers.contains(Modifier.FINAL)
                || called.getEnclosingElement().getModifiers().contains(Modifier.FINAL);
        }

        /** Rule 7: a call on an element, where an element may be missing. */
        @Override
        public Void visitMemberSelect(MemberSelectTree tree, Void none) {
            if (tree.getExpression() instanceof ArrayAccessTree access) {
                hold(7, fullArrays.contains(lastName(access.getExpression())), tree);
            }
            return super.visitMemberSelect(tree, none);
        }

        @Override
        public Void visitBinary(BinaryTree tree, Void none) {
            if (tree.getKind() == Tree.Kind.DIVIDE || tree.getKind() == Tree.Kind.REMAINDER) {
                hold(7, isNeverNought(tree.getRightOperand()), tree);
            }
            if (tree.getKind() == Tree.Kind.PLUS) {
                hold(10, trees.getTypeMirror(getCurrentPath()).getKind().isPrimitive(), tree);
            }
            if (tree.getKind() == Tree.Kind.EQUAL_TO || tree.getKind() == Tree.Kind.NOT_EQUAL_TO) {
                hold(6, !isText(tree.getLeftOperand()) && !isText(tree.getRightOperand()), tree);
            }
            return super.visitBinary(tree, none);
        }

        private boolean isText(ExpressionTree operand) {
            TypeMirror type = trees.getTypeMirror(new TreePath(getCurrentPath(), operand));
            return type != null && type.toString().matches("java\\.lang\\.(String|Integer)");
        }

        @Override
        public Void visitCompoundAssignment(CompoundAssignmentTree tree, Void none) {
            boolean divides = tree.getKind() == Tree.Kind.DIVIDE_ASSIGNMENT
                || tree.getKind() == Tree.Kind.REMAINDER_ASSIGNMENT;
            hold(7, !divides || isNeverNought(tree.getExpression()), tree);
            return super.visitCompoundAssignment(tree, none);
        }

        /** A constant, the divisor that is 1 at least, or what the condition of a loop around it tests. */
        private boolean isNeverNought(ExpressionTree divisor) {
            String text = divisor.toString();
            if (text.matches("[1-9]\\d*|[A-Z]+|greatestDivisor\\(.*\\)")) {
                return true;
            }
            for (TreePath path = getCurrentPath(); path != null; path = path.getParentPath()) {
                if (path.getLeaf() instanceof ForLoopTree loop
                    && loop.getCondition().toString().contains(text + " != 0") && divisor instanceof IdentifierTree) {
                    return true;
                }
            }
            return false;
        }

        @Override
        public Void visitTypeCast(TypeCastTree tree, Void none) {
            hold(6, trees.getTypeMirror(getCurrentPath()).getKind().isPrimitive(), tree);
            return super.visitTypeCast(tree, none);
        }

        /** Rule 9: a counter against a bound, counted at each turn. */
        @Override
        public Void visitForLoop(ForLoopTree tree, Void none) {
            String counter = tree.getInitializer().isEmpty() ? "" : lastName(tree.getInitializer().get(0)).split(" ")[1];
            String condition = String.valueOf(tree.getCondition());
            String update = tree.getUpdate().toString();
            boolean goesUp = update.startsWith(counter + "++")
                && Pattern.compile("^\\(?" + counter + " <=? ").matcher(condition.replace("(", "")).find();
            boolean goesDown = update.startsWith(counter + "--")
                && Pattern.compile("^" + counter + " >=? ").matcher(condition.replace("(", "")).find();
            hold(9, goesUp || goesDown, tree);
            loops++;
            super.visitForLoop(tree, none);
            loops--;
            return null;
        }

        @Override
        public Void visitEnhancedForLoop(EnhancedForLoopTree tree, Void none) {
            loops++;
            super.visitEnhancedForLoop(tree, none);
            loops--;
            return null;
        }

        @Override
        public Void visitWhileLoop(WhileLoopTree tree, Void none) {
            hold(9, false, tree);
            return super.visitWhileLoop(tree, none);
        }

        @Override
        public Void visitDoWhileLoop(DoWhileLoopTree tree, Void none) {
            hold(9, false, tree);
            return super.visitDoWhileLoop(tree, none);
        }
    }
}
