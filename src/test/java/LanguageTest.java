import com.sun.source.tree.*;
import com.sun.source.util.JavacTask;
import com.sun.source.util.TreeScanner;
import java.lang.reflect.Method;
import java.lang.reflect.Modifier;
import java.nio.file.Path;
import java.util.Arrays;
import java.util.EnumSet;
import java.util.HashMap;
import java.util.HashSet;
import java.util.Map;
import java.util.Set;
import java.util.TreeSet;
import java.util.regex.Matcher;
import java.util.regex.Pattern;
import javax.tools.JavaCompiler;
import javax.tools.ToolProvider;

/** The document's public face, and the rules of LANGUAGE.md that can be seen in the program's text. */
final class LanguageTest extends TestBase {
    private static final String SOURCE = "src/main/java/TickController.java";
    private static final Set<String> FACE = Set.of("int load(int,int,int)", "boolean vector(int,int)",
            "void power()", "int run(int)", "boolean pins(int)", "boolean analog(int,int)",
            "boolean receive(int)", "int register(int)", "int memory(int)", "int port(int)", "int state(int)",
            "int stored(int)", "int line(int)", "int sent()");
    private static final Set<Tree.Kind> FORBIDDEN = EnumSet.of(Tree.Kind.THROW, Tree.Kind.TRY,
            Tree.Kind.SYNCHRONIZED, Tree.Kind.ASSERT, Tree.Kind.INSTANCE_OF, Tree.Kind.LAMBDA_EXPRESSION,
            Tree.Kind.MEMBER_REFERENCE, Tree.Kind.NEW_CLASS, Tree.Kind.NULL_LITERAL, Tree.Kind.STRING_LITERAL,
            Tree.Kind.FLOAT_LITERAL, Tree.Kind.DOUBLE_LITERAL, Tree.Kind.IMPORT,
            Tree.Kind.INTERFACE, Tree.Kind.ENUM, Tree.Kind.RECORD);
    private static final Set<String> TYPES = Set.of("int", "long", "short", "byte", "char", "boolean", "int[]",
            "long[]", "short[]", "byte[]", "char[]", "boolean[]");

    private static final Set<String> NUMBERS = Set.of("int", "long", "short", "byte", "char");
    private static final Set<Tree.Kind> CONSTANT = EnumSet.of(Tree.Kind.INT_LITERAL, Tree.Kind.LONG_LITERAL,
            Tree.Kind.IDENTIFIER, Tree.Kind.PARENTHESIZED, Tree.Kind.PLUS, Tree.Kind.MINUS, Tree.Kind.MULTIPLY,
            Tree.Kind.LEFT_SHIFT, Tree.Kind.UNARY_MINUS);

    private static final int SOME_FORTY = 44, SOME_SIXTY = 66;

    public static void main(String[] args) throws java.io.IOException {
        publicFace();
        CompilationUnitTree unit = parse();
        due("classes in the file", unit.getTypeDecls().size(), 1);
        due("rule 1: no package", unit.getPackageName() == null, true);
        Rules rules = new Rules();
        rules.scan(unit, null);
        due("rule 10: some forty fields", rules.fields <= SOME_FORTY, true);
        callsEndAndStayFlat(rules.calls);
        end();
    }

    private static CompilationUnitTree parse() throws java.io.IOException {
        JavaCompiler compiler = ToolProvider.getSystemJavaCompiler();
        var files = compiler.getStandardFileManager(null, null, null).getJavaFileObjects(Path.of(SOURCE));
        JavacTask task = (JavacTask) compiler.getTask(null, null, null, null, null, files);
        return task.parse().iterator().next();
    }

    private static void publicFace() {
        Set<String> seen = new TreeSet<>();
        Set<String> hidden = new HashSet<>();
        for (Method m : TickController.class.getDeclaredMethods()) {
            String parameters = String.join(",", Arrays.stream(m.getParameterTypes()).map(Class::getName).toList());
            if (Modifier.isPrivate(m.getModifiers())) {
                hidden.add(m.getName());
            } else {
                seen.add(m.getReturnType() + " " + m.getName() + "(" + parameters + ")");
            }
        }
        due("rule 1: methods " + seen, seen.equals(new TreeSet<>(FACE)), true);
        for (String name : hidden) {
            due("rule 1: private " + name, FACE.stream().anyMatch(f -> f.contains(" " + name + "(")), false);
        }
        due("rule 1: final", Modifier.isFinal(TickController.class.getModifiers()), true);
        due("rule 1: one public constructor", TickController.class.getConstructors().length, 1);
        due("rule 1: no other constructor", TickController.class.getDeclaredConstructors().length, 1);
        for (var f : TickController.class.getDeclaredFields()) {
            due("rule 1: private " + f.getName(), Modifier.isPrivate(f.getModifiers()), true);
            boolean isFinal = Modifier.isFinal(f.getModifiers());
            boolean constant = isFinal && (f.getType() == int.class || f.getType() == long.class);
            due("rule 5: static " + f.getName(), !Modifier.isStatic(f.getModifiers()) || constant, true);
            due("rule 4: no method assigns to " + f.getName(), isFinal || !f.getType().isArray(), true);
        }
    }

    /** Rules 8 and 10: takes away, level by level, the methods that call none of those left. */
    private static void callsEndAndStayFlat(Map<String, Set<String>> calls) {
        int levels = 0;
        while (!calls.isEmpty() && levels < 100) {
            Set<String> leaves = new HashSet<>();
            calls.forEach((name, called) -> {
                if (called.stream().noneMatch(calls::containsKey)) {
                    leaves.add(name);
                }
            });
            calls.keySet().removeAll(leaves);
            levels++;
        }
        due("rule 8: methods in a ring of calls", calls.size(), 0);
        due("rule 10: calls go " + levels + " deep", levels <= 6, true);
    }

    /** Walks over the whole file; method is the name of the one that it is in, or empty. */
    private static final class Rules extends TreeScanner<Void, Void> {
        final Map<String, Set<String>> calls = new HashMap<>();
        int fields = 0;
        private String method = "";
        private int classes = 0;
        private int inArguments = 0;

        @Override
        public Void scan(Tree tree, Void none) {
            if (tree != null && FORBIDDEN.contains(tree.getKind())) {
                due("rules 2, 3, 6: " + tree.getKind() + " " + tree, 1, 0);
            }
            return super.scan(tree, none);
        }

        @Override
        public Void visitClass(ClassTree tree, Void none) {
            classes++;
            due("rule 1: class " + tree.getSimpleName() + " is number", classes, 1);
            return super.visitClass(tree, none);
        }

        @Override
        public Void visitMethod(MethodTree tree, Void none) {
            method = tree.getName().toString();
            calls.put(method, new HashSet<>());
            String answer = String.valueOf(tree.getReturnType());
            due("rule 4: " + method + " answers " + answer, answer.contains("["), false);
            due("rule 10: parameters of " + method, tree.getParameters().size() <= 7, true);
            String text = tree.getBody().toString();
            due("rule 10: length of " + method, text.lines().count() <= SOME_SIXTY, true);
            super.visitMethod(tree, none);
            method = "";
            return null;
        }

        @Override
        public Void visitVariable(VariableTree tree, Void none) {
            due("rule 2: type of " + tree.getName(), TYPES.contains(tree.getType().toString()), true);
            boolean constant = tree.getModifiers().getFlags().contains(javax.lang.model.element.Modifier.STATIC);
            fields += method.isEmpty() && !constant ? 1 : 0;
            due("rule 5: value of " + tree.getName(), !constant || isConstant(tree.getInitializer()), true);
            return super.visitVariable(tree, none);
        }

        @Override
        public Void visitNewArray(NewArrayTree tree, Void none) {
            due("rule 4: array made in " + method, method.isEmpty() || method.equals("<init>"), true);
            due("rule 4: one dimension", tree.getDimensions().size(), 1);
            due("rule 4: length " + tree.getDimensions(), isConstant(tree.getDimensions().get(0)), true);
            return super.visitNewArray(tree, none);
        }

        /** Names in capitals are those of constants here. */
        private static boolean isConstant(ExpressionTree tree) {
            Boolean all = new TreeScanner<Boolean, Void>() {
                @Override
                public Boolean scan(Tree part, Void none) {
                    boolean fits = part == null || CONSTANT.contains(part.getKind())
                            && (part.getKind() != Tree.Kind.IDENTIFIER || part.toString().matches("[A-Z_]+"));
                    return fits && super.scan(part, none) != Boolean.FALSE;
                }

                @Override
                public Boolean reduce(Boolean one, Boolean other) {
                    return one != Boolean.FALSE && other != Boolean.FALSE;
                }
            }.scan(tree, null);
            return all;
        }

        @Override
        public Void visitTypeCast(TypeCastTree tree, Void none) {
            due("rule 6: cast to " + tree.getType(), NUMBERS.contains(tree.getType().toString()), true);
            return super.visitTypeCast(tree, none);
        }

        @Override
        public Void visitBinary(BinaryTree tree, Void none) {
            boolean divides = tree.getKind() == Tree.Kind.DIVIDE || tree.getKind() == Tree.Kind.REMAINDER;
            due("rule 7: divisor of " + tree, !divides || tree.getRightOperand().toString().matches("[1-9]\\d*"), true);
            return super.visitBinary(tree, none);
        }

        @Override
        public Void visitCompoundAssignment(CompoundAssignmentTree tree, Void none) {
            boolean divides = tree.getKind() == Tree.Kind.DIVIDE_ASSIGNMENT
                    || tree.getKind() == Tree.Kind.REMAINDER_ASSIGNMENT;
            due("rule 7: divisor of " + tree, divides, false);
            return super.visitCompoundAssignment(tree, none);
        }

        @Override
        public Void visitForLoop(ForLoopTree tree, Void none) {
            dueEnd(tree.getCondition(), tree.getUpdate().toString());
            return super.visitForLoop(tree, none);
        }

        @Override
        public Void visitWhileLoop(WhileLoopTree tree, Void none) {
            dueEnd(tree.getCondition(), tree.getStatement().toString());
            return super.visitWhileLoop(tree, none);
        }

        @Override
        public Void visitDoWhileLoop(DoWhileLoopTree tree, Void none) {
            dueEnd(tree.getCondition(), tree.getStatement().toString());
            return super.visitDoWhileLoop(tree, none);
        }

        /** The condition is, or begins with, a counter below a bound, and the counter goes up. */
        private static void dueEnd(ExpressionTree condition, String steps) {
            Matcher counter = Pattern.compile("\\(?(\\w+) < [^|]*").matcher(String.valueOf(condition));
            boolean ends = counter.matches() && steps.contains(counter.group(1) + "++");
            due("rule 8: end of the loop " + condition, ends, true);
        }

        /** Of what has a dot, only an array's length and the object's own members are within rule 3. */
        @Override
        public Void visitMemberSelect(MemberSelectTree tree, Void none) {
            boolean own = tree.getExpression().toString().equals("this");
            due("rule 3: " + tree, own || tree.getIdentifier().contentEquals("length"), true);
            return super.visitMemberSelect(tree, none);
        }

        @Override
        public Void visitMethodInvocation(MethodInvocationTree tree, Void none) {
            if (calls.containsKey(method)) {
                calls.get(method).add(tree.getMethodSelect().toString().replace("this.", ""));
            }
            due("rule 10: call inside the arguments of another one, " + tree, inArguments > 0, false);
            inArguments++;
            super.visitMethodInvocation(tree, none);
            inArguments--;
            return null;
        }
    }
}
