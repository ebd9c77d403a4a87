import com.sun.source.tree.AssertTree;
import com.sun.source.tree.BinaryTree;
import com.sun.source.tree.ClassTree;
import com.sun.source.tree.CompilationUnitTree;
import com.sun.source.tree.IdentifierTree;
import com.sun.source.tree.LambdaExpressionTree;
import com.sun.source.tree.LineMap;
import com.sun.source.tree.LiteralTree;
import com.sun.source.tree.MemberReferenceTree;
import com.sun.source.tree.MemberSelectTree;
import com.sun.source.tree.MethodInvocationTree;
import com.sun.source.tree.MethodTree;
import com.sun.source.tree.NewClassTree;
import com.sun.source.tree.SynchronizedTree;
import com.sun.source.tree.ThrowTree;
import com.sun.source.tree.Tree;
import com.sun.source.tree.TryTree;
import com.sun.source.tree.VariableTree;
import com.sun.source.util.JavacTask;
import com.sun.source.util.SourcePositions;
import com.sun.source.util.TreeScanner;
import com.sun.source.util.Trees;
import java.io.File;
import java.lang.reflect.Constructor;
import java.lang.reflect.Field;
import java.lang.reflect.Method;
import java.lang.reflect.Modifier;
import java.util.ArrayList;
import java.util.Arrays;
import java.util.HashMap;
import java.util.HashSet;
import java.util.List;
import java.util.Map;
import java.util.Set;
import java.util.TreeSet;
import javax.tools.JavaCompiler;
import javax.tools.StandardJavaFileManager;
import javax.tools.ToolProvider;

/** The rules of LANGUAGE.md that can be read off the program's text, and its public face. */
public final class LanguageTest {
    private static final Checks CHECKS = new Checks();

    private static final String FACE = "int add(int)|int skip(int)|int set(int,int)|int clear()|int removeLine(int,int)"
        + "|int addLine(int,int)|int removeDrift()|int removeOutliers(int)|int fill(int)|int thin(int,int)|int undo()"
        + "|int told(int)|int reading(int)|int difference(int,int,int)|int count(int,int)|long variance(int,int,int)"
        + "|long deviation(int,int)|int compare(int,int,int)|int best(int)|int noise(int)|int freedom(int)"
        + "|int outliers(int)|int write(int)|int wipe()|int load()|int fault(int)|int keep(int)|int back(int)";

    private static final Set<String> LIBRARY = Set.of("Math.floorDiv", "Math.max", "Long.compare");

    public static void main(String[] args) throws Exception {
        face();
        text(new File(args[0], "src/main/java/StabilityAnalyzer.java"));
        CHECKS.close();
    }

    private static void face() {
        Class<?> program = StabilityAnalyzer.class;
        CHECKS.holds("the class is public and final",
            Modifier.isPublic(program.getModifiers()) && Modifier.isFinal(program.getModifiers()));
        Set<String> methods = new TreeSet<>();
        Set<String> names = new HashSet<>();
        for (Method method : program.getDeclaredMethods()) {
            if (Modifier.isPublic(method.getModifiers())) {
                StringBuilder parameters = new StringBuilder();
                for (Class<?> type : method.getParameterTypes()) {
                    parameters.append(parameters.length() == 0 ? "" : ",").append(type.getName());
                }
                methods.add(method.getReturnType().getName() + " " + method.getName() + "(" + parameters + ")");
                names.add(method.getName());
            } else {
                CHECKS.holds("private: " + method, Modifier.isPrivate(method.getModifiers()));
            }
        }
        CHECKS.holds("the methods are the face's: " + methods, methods.equals(new TreeSet<>(Arrays.asList(FACE.split("\\|")))));
        Constructor<?>[] constructors = program.getDeclaredConstructors();
        CHECKS.holds("one public constructor", constructors.length == 1
            && Modifier.isPublic(constructors[0].getModifiers()) && constructors[0].getParameterCount() == 0);
        fields(program);
        for (Class<?> inside : program.getDeclaredClasses()) {
            CHECKS.holds("static: " + inside, Modifier.isStatic(inside.getModifiers()));
            fields(inside);
            for (Method method : inside.getDeclaredMethods()) {
                CHECKS.holds("has no public one's name: " + method, !names.contains(method.getName()));
            }
        }
    }

    private static void fields(Class<?> owner) {
        Set<String> open = new TreeSet<>();
        int own = 0;
        for (Field field : owner.getDeclaredFields()) {
            if (Modifier.isStatic(field.getModifiers())) {
                CHECKS.holds("final: " + field, Modifier.isFinal(field.getModifiers()));
            } else {
                own++;
            }
            if (!Modifier.isPrivate(field.getModifiers())) {
                open.add(field.getName());
            }
        }
        CHECKS.holds("at most twenty fields: " + owner, own <= 20);
        CHECKS.holds("no field is open but the constants: " + open, owner == StabilityAnalyzer.class
            ? open.equals(Set.of("NONE", "BAD", "STATE", "FULL", "LARGE")) : open.isEmpty());
    }

    private static void text(File file) throws Exception {
        JavaCompiler compiler = ToolProvider.getSystemJavaCompiler();
        try (StandardJavaFileManager files = compiler.getStandardFileManager(null, null, null)) {
            JavacTask task = (JavacTask) compiler.getTask(null, files, null, List.of("-proc:none"), null,
                files.getJavaFileObjects(file));
            for (CompilationUnitTree unit : task.parse()) {
                CHECKS.holds("no import, no package", unit.getImports().isEmpty() && unit.getPackageName() == null);
                Reader reader = new Reader(unit, Trees.instance(task).getSourcePositions());
                reader.scan(unit, null);
                reader.close();
            }
        }
    }

    private static final class Reader extends TreeScanner<Void, Void> {
        private final CompilationUnitTree unit;
        private final SourcePositions positions;
        private final LineMap lines;
        private final Map<String, Set<String>> calls = new HashMap<>();
        private String method = "";
        private int classes = 0;

        Reader(CompilationUnitTree unit, SourcePositions positions) {
            this.unit = unit;
            this.positions = positions;
            lines = unit.getLineMap();
        }

        private long line(long position) {
            return lines.getLineNumber(position);
        }

        private void never(String what, Tree tree) {
            CHECKS.holds("no " + what + " in line " + line(positions.getStartPosition(unit, tree)), false);
        }

        @Override
        public Void visitClass(ClassTree tree, Void nothing) {
            classes++;
            if (!method.isEmpty()) {
                never("local class", tree);
            }
            return super.visitClass(tree, nothing);
        }

        @Override
        public Void visitMethod(MethodTree tree, Void nothing) {
            method = tree.getName().toString();
            calls.computeIfAbsent(method, name -> new HashSet<>());
            long length = line(positions.getEndPosition(unit, tree)) - line(positions.getStartPosition(unit, tree)) + 1;
            CHECKS.holds("at most sixty lines: " + method, length <= 60);
            CHECKS.holds("at most seven parameters: " + method, tree.getParameters().size() <= 7);
            CHECKS.holds("no throws: " + method, tree.getThrows().isEmpty());
            super.visitMethod(tree, nothing);
            method = "";
            return null;
        }

        @Override
        public Void visitMethodInvocation(MethodInvocationTree tree, Void nothing) {
            Tree select = tree.getMethodSelect();
            String name = select.toString();
            if (select instanceof MemberSelectTree) {
                String owner = ((MemberSelectTree) select).getExpression().toString();
                boolean library = Character.isUpperCase(owner.charAt(0));
                CHECKS.holds("a call that the rules list: " + name, !library || LIBRARY.contains(name));
                name = library ? "" : ((MemberSelectTree) select).getIdentifier().toString();
            }
            if (!name.isEmpty() && !method.isEmpty()) {
                calls.get(method).add(name);
            }
            return super.visitMethodInvocation(tree, nothing);
        }

        @Override
        public Void visitNewClass(NewClassTree tree, Void nothing) {
            if (tree.getClassBody() != null) {
                never("anonymous class", tree);
            }
            CHECKS.holds("objects are made in constructors alone: " + tree, method.isEmpty() || method.equals("<init>"));
            return super.visitNewClass(tree, nothing);
        }

        @Override
        public Void visitBinary(BinaryTree tree, Void nothing) {
            Tree.Kind kind = tree.getKind();
            if (kind == Tree.Kind.PLUS && isText(tree.getLeftOperand(), tree.getRightOperand())) {
                never("joining of texts by +", tree);
            }
            return super.visitBinary(tree, nothing);
        }

        private static boolean isText(Tree... operands) {
            for (Tree operand : operands) {
                if (operand.getKind() == Tree.Kind.STRING_LITERAL) {
                    return true;
                }
            }
            return false;
        }

        @Override
        public Void visitIdentifier(IdentifierTree tree, Void nothing) {
            Set<String> foreign = Set.of("System", "Object", "Class", "Thread", "Runtime", "Iterable", "Double", "Float");
            CHECKS.holds("no " + tree.getName(), !foreign.contains(tree.getName().toString()));
            return super.visitIdentifier(tree, nothing);
        }

        @Override
        public Void visitVariable(VariableTree tree, Void nothing) {
            if (tree.getType() != null && Set.of("double", "float", "var").contains(tree.getType().toString())) {
                never(tree.getType().toString(), tree);
            }
            return super.visitVariable(tree, nothing);
        }

        @Override
        public Void visitLiteral(LiteralTree tree, Void nothing) {
            CHECKS.holds("no number with a point", tree.getKind() != Tree.Kind.DOUBLE_LITERAL);
            return super.visitLiteral(tree, nothing);
        }

        @Override
        public Void visitThrow(ThrowTree tree, Void nothing) {
            never("throw", tree);
            return null;
        }

        @Override
        public Void visitTry(TryTree tree, Void nothing) {
            never("try", tree);
            return null;
        }

        @Override
        public Void visitSynchronized(SynchronizedTree tree, Void nothing) {
            never("synchronized", tree);
            return null;
        }

        @Override
        public Void visitAssert(AssertTree tree, Void nothing) {
            never("assert", tree);
            return null;
        }

        @Override
        public Void visitLambdaExpression(LambdaExpressionTree tree, Void nothing) {
            never("lambda", tree);
            return null;
        }

        @Override
        public Void visitMemberReference(MemberReferenceTree tree, Void nothing) {
            never("method reference", tree);
            return null;
        }

        void close() {
            CHECKS.holds("at most twelve classes", classes <= 12);
            for (String name : calls.keySet()) {
                // A name that stands in several classes counts as one, so this can only be too strict.
                CHECKS.holds("at most eight calls deep, no recursion: " + name, depth(name, new ArrayList<>()) <= 8);
            }
        }

        private int depth(String name, List<String> open) {
            if (!calls.containsKey(name)) {
                return 0;
            }
            if (open.contains(name)) {
                return 1000;
            }
            open.add(name);
            int deepest = 0;
            for (String called : calls.get(name)) {
                deepest = Math.max(deepest, depth(called, open));
            }
            open.remove(open.size() - 1);
            return deepest + 1;
        }
    }
}
