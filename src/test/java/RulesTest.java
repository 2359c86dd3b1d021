import com.sun.source.tree.AssertTree;
import com.sun.source.tree.BinaryTree;
import com.sun.source.tree.CompilationUnitTree;
import com.sun.source.tree.LambdaExpressionTree;
import com.sun.source.tree.MemberReferenceTree;
import com.sun.source.tree.MethodInvocationTree;
import com.sun.source.tree.MethodTree;
import com.sun.source.tree.NewArrayTree;
import com.sun.source.tree.NewClassTree;
import com.sun.source.tree.SynchronizedTree;
import com.sun.source.tree.ThrowTree;
import com.sun.source.tree.Tree;
import com.sun.source.tree.TryTree;
import com.sun.source.tree.VariableTree;
import com.sun.source.util.JavacTask;
import com.sun.source.util.SourcePositions;
import com.sun.source.util.TreePathScanner;
import com.sun.source.util.Trees;
import java.io.File;
import java.lang.reflect.Constructor;
import java.lang.reflect.Field;
import java.lang.reflect.Method;
import java.lang.reflect.Modifier;
import java.nio.charset.StandardCharsets;
import java.nio.file.Files;
import java.nio.file.Path;
import java.util.ArrayList;
import java.util.HashMap;
import java.util.List;
import java.util.Map;
import java.util.Set;
import java.util.TreeSet;
import java.util.regex.Matcher;
import java.util.regex.Pattern;
import javax.lang.model.element.Element;
import javax.lang.model.element.ElementKind;
import javax.lang.model.element.ExecutableElement;
import javax.lang.model.type.TypeKind;
import javax.tools.JavaCompiler;
import javax.tools.StandardJavaFileManager;
import javax.tools.ToolProvider;

/**
 * Holds the class against what LANGUAGE.md rules and a source can tell: its
 * face, its types and library, how long and how deep its methods are, and
 * that nothing is made outside the constructors.
 */
public final class RulesTest {
    private static final String SOURCE = "src/main/java/FutureWishes.java";
    private static final int LONGEST_METHOD = 60;
    private static final int MOST_PARAMETERS = 7;
    private static final int DEEPEST_CALL = 8;
    private static final int MOST_CLASSES = 12;
    private static final int MOST_FIELDS = 20;

    private static final Set<String> LIBRARY = Set.of("java.lang.Integer.bitCount", "java.lang.Math.max",
        "java.lang.System.arraycopy", "java.lang.Object.<init>");
    private static final Set<String> EXCEPTIONS = Set.of("java.lang.IllegalStateException",
        "java.lang.IllegalArgumentException", "java.lang.IndexOutOfBoundsException");
    private static final Set<String> CONSTANTS = Set.of("int", "long", "boolean", "char", "java.lang.String");

    private static final Path DOCUMENT = Path.of("..", "shared", "DOC.md");
    private static final int METHODS = 23;
    private static final Pattern METHOD = Pattern.compile("public (\\w+) (\\w+)\\((.*)\\)(?: throws (.*))?");

    /** The rows of the document's face, each without its ";", as "public int ring()". */
    private static final List<String> FACE = new ArrayList<>();

    /** Its methods by their names, each as "int flip(int,int) FirstException SecondException". */
    private static final Map<String, String> PROMISED = new HashMap<>();

    private static int wrong = 0;

    private static void fault(String text) {
        wrong++;
        System.out.println(text);
    }

    public static void main(String[] args) throws Exception {
        readFace();
        checkRows();
        checkFace();
        checkSource();
        System.out.println("RulesTest: " + wrong + " faults");
        if (wrong != 0) {
            System.exit(1);
        }
    }

    private static void readFace() throws Exception {
        boolean within = false;
        for (String line : Files.readAllLines(DOCUMENT, StandardCharsets.UTF_8)) {
            within = !line.startsWith("```") && (within || line.startsWith("public final class "));
            String row = line.strip().replace(";", "");
            Matcher method = METHOD.matcher(row);
            if (within && line.endsWith(";")) {
                FACE.add(row);
            }
            if (within && method.matches()) {
                String types = method.group(3).replaceAll(" \\w+(?=,|$)", "").replace(" ", "");
                String thrown = method.group(4) == null ? "" : " " + method.group(4).replace(",", "");
                PROMISED.put(method.group(2), method.group(1) + " " + method.group(2) + "(" + types + ")" + thrown);
            }
        }
        if (PROMISED.size() != METHODS || FACE.size() != METHODS + 2) {
            fault("the document's face was read as " + FACE);
        }
    }

    /** Names of parameters are in the source alone, so the rows have to stand there word by word. */
    private static void checkRows() throws Exception {
        String source = Files.readString(Path.of(SOURCE), StandardCharsets.UTF_8);
        for (String row : FACE) {
            if (!source.contains("\n    " + row + (row.contains("(") ? " {\n" : ";\n"))) {
                fault("rule 1: the source has no row " + row);
            }
        }
    }

    private static void checkFace() throws Exception {
        Set<String> want = new TreeSet<>(PROMISED.values());
        Set<String> got = new TreeSet<>();
        for (Method method : FutureWishes.class.getDeclaredMethods()) {
            if (Modifier.isPublic(method.getModifiers())) {
                got.add(told(method));
            } else if (!Modifier.isPrivate(method.getModifiers())) {
                fault("rule 1: " + method + " is neither public nor private");
            }
        }
        if (!want.equals(got)) {
            fault("rule 1: the methods are " + got);
        }
        for (Field field : FutureWishes.class.getDeclaredFields()) {
            if (!Modifier.isPrivate(field.getModifiers()) && !field.getName().equals("NONE")) {
                fault("rule 1: the field " + field.getName() + " is not private");
            }
        }
        Constructor<?>[] made = FutureWishes.class.getDeclaredConstructors();
        if (made.length != 1 || made[0].getParameterCount() != 0 || !Modifier.isPublic(made[0].getModifiers())) {
            fault("rule 1: the constructors");
        }
        if (!Modifier.isFinal(FutureWishes.class.getModifiers()) || FutureWishes.NONE != -1) {
            fault("rule 1: the class or its constant");
        }
        Class<?>[] inside = FutureWishes.class.getDeclaredClasses();
        if (inside.length + 1 > MOST_CLASSES) {
            fault("rule 11: " + inside.length + " classes inside");
        }
        for (Class<?> one : inside) {
            if (Modifier.isPublic(one.getModifiers()) || !Modifier.isStatic(one.getModifiers())) {
                fault("rule 1: the class " + one.getName());
            }
        }
    }

    private static String told(Method method) {
        StringBuilder text = new StringBuilder(method.getReturnType() + " " + method.getName() + "(");
        String comma = "";
        for (Class<?> type : method.getParameterTypes()) {
            text.append(comma).append(type);
            comma = ",";
        }
        text.append(")");
        for (Class<?> type : method.getExceptionTypes()) {
            text.append(" ").append(type.getSimpleName());
        }
        return text.toString();
    }

    private static void checkSource() throws Exception {
        JavaCompiler compiler = ToolProvider.getSystemJavaCompiler();
        StandardJavaFileManager files = compiler.getStandardFileManager(null, null, null);
        JavacTask task = (JavacTask) compiler.getTask(null, files, null, List.of("-proc:none"), null,
            files.getJavaFileObjects(new File(SOURCE)));
        CompilationUnitTree unit = task.parse().iterator().next();
        task.analyze();
        if (unit.getPackageName() != null || !unit.getImports().isEmpty()) {
            fault("rules 1 and 4: a package or an import");
        }
        Reader reader = new Reader(Trees.instance(task), unit);
        reader.scan(unit, null);
        reader.checkDepth();
    }

    /** Goes through the source once, and keeps who calls whom. */
    private static final class Reader extends TreePathScanner<Void, Void> {
        private final Trees trees;
        private final CompilationUnitTree unit;
        private final Map<Element, Set<Element>> calls = new HashMap<>();
        private final Map<Element, Integer> fields = new HashMap<>();
        private ExecutableElement inside = null;

        Reader(Trees trees, CompilationUnitTree unit) {
            this.trees = trees;
            this.unit = unit;
        }

        private void faultAt(Tree tree, String text) {
            SourcePositions places = trees.getSourcePositions();
            fault("line " + unit.getLineMap().getLineNumber(places.getStartPosition(unit, tree)) + ": " + text);
        }

        private long lines(Tree tree) {
            SourcePositions places = trees.getSourcePositions();
            return unit.getLineMap().getLineNumber(places.getEndPosition(unit, tree))
                - unit.getLineMap().getLineNumber(places.getStartPosition(unit, tree)) + 1;
        }

        @Override
        public Void visitMethod(MethodTree tree, Void none) {
            inside = (ExecutableElement) trees.getElement(getCurrentPath());
            calls.put(inside, new java.util.LinkedHashSet<>());
            if (lines(tree) > LONGEST_METHOD) {
                faultAt(tree, "rule 11: " + tree.getName() + " has " + lines(tree) + " lines");
            }
            if (tree.getParameters().size() > MOST_PARAMETERS) {
                faultAt(tree, "rule 11: " + tree.getName() + " has too many parameters");
            }
            boolean inFace = inside.getModifiers().contains(javax.lang.model.element.Modifier.PUBLIC);
            if (!inFace && PROMISED.containsKey(tree.getName().toString())) {
                faultAt(tree, "rule 1: " + tree.getName() + " bears the name of a public method");
            }
            super.visitMethod(tree, none);
            inside = null;
            return null;
        }

        @Override
        public Void visitVariable(VariableTree tree, Void none) {
            Element element = trees.getElement(getCurrentPath());
            if (element != null && element.getKind() == ElementKind.FIELD) {
                Set<javax.lang.model.element.Modifier> marks = element.getModifiers();
                boolean isStatic = marks.contains(javax.lang.model.element.Modifier.STATIC);
                if (isStatic && !(marks.contains(javax.lang.model.element.Modifier.FINAL)
                    && CONSTANTS.contains(element.asType().toString()))) {
                    faultAt(tree, "rule 5: the static field " + tree.getName());
                }
                int number = fields.merge(element.getEnclosingElement(), isStatic ? 0 : 1, Integer::sum);
                if (number > MOST_FIELDS) {
                    faultAt(tree, "rule 11: more than " + MOST_FIELDS + " fields");
                }
            }
            return super.visitVariable(tree, none);
        }

        private boolean inConstructorOrField() {
            return inside == null || inside.getKind() == ElementKind.CONSTRUCTOR;
        }

        @Override
        public Void visitNewArray(NewArrayTree tree, Void none) {
            if (!inConstructorOrField()) {
                faultAt(tree, "a row that is made by a call");
            }
            return super.visitNewArray(tree, none);
        }

        @Override
        public Void visitNewClass(NewClassTree tree, Void none) {
            String name = trees.getElement(getCurrentPath()).getEnclosingElement().toString();
            boolean isThrown = getCurrentPath().getParentPath().getLeaf() instanceof ThrowTree;
            if (isThrown ? !EXCEPTIONS.contains(name) : !inConstructorOrField() || !name.startsWith("FutureWishes")) {
                faultAt(tree, "rule 6 or 12: new " + name);
            }
            return super.visitNewClass(tree, none);
        }

        @Override
        public Void visitThrow(ThrowTree tree, Void none) {
            if (inConstructorOrField()) {
                faultAt(tree, "rule 6: a throw in a constructor");
            }
            return super.visitThrow(tree, none);
        }

        @Override
        public Void visitMethodInvocation(MethodInvocationTree tree, Void none) {
            Element called = trees.getElement(getCurrentPath());
            String owner = called.getEnclosingElement().toString();
            if (owner.startsWith("FutureWishes")) {
                if (inside != null) {
                    calls.get(inside).add(called);
                }
            } else if (!LIBRARY.contains(owner + "." + called.getSimpleName())) {
                faultAt(tree, "rule 4: " + owner + "." + called.getSimpleName());
            }
            return super.visitMethodInvocation(tree, none);
        }

        @Override
        public Void visitBinary(BinaryTree tree, Void none) {
            if (trees.getTypeMirror(getCurrentPath()).getKind() == TypeKind.DECLARED) {
                faultAt(tree, "rule 10: a text joined by +");
            }
            return super.visitBinary(tree, none);
        }

        @Override
        public Void visitLambdaExpression(LambdaExpressionTree tree, Void none) {
            faultAt(tree, "rule 2: a lambda");
            return null;
        }

        @Override
        public Void visitMemberReference(MemberReferenceTree tree, Void none) {
            faultAt(tree, "rule 2: a method reference");
            return null;
        }

        @Override
        public Void visitTry(TryTree tree, Void none) {
            faultAt(tree, "a try: nothing here needs one");
            return null;
        }

        @Override
        public Void visitSynchronized(SynchronizedTree tree, Void none) {
            faultAt(tree, "rule 6: synchronized");
            return null;
        }

        @Override
        public Void visitAssert(AssertTree tree, Void none) {
            faultAt(tree, "rule 6: assert");
            return null;
        }

        /** The longest row of calls from one on, itself counted; no call comes back to itself. */
        private List<Element> deepest(Element method, List<Element> open) {
            if (open.contains(method)) {
                fault("rule 8: " + method + " calls itself");
                return new ArrayList<>();
            }
            open.add(method);
            List<Element> most = new ArrayList<>();
            for (Element called : calls.getOrDefault(method, Set.of())) {
                List<Element> row = deepest(called, open);
                if (row.size() > most.size()) {
                    most = row;
                }
            }
            open.remove(method);
            List<Element> row = new ArrayList<>(most);
            row.add(0, method);
            return row;
        }

        void checkDepth() {
            for (Element method : calls.keySet()) {
                List<Element> row = deepest(method, new ArrayList<>());
                if (row.size() > DEEPEST_CALL) {
                    fault("rule 11: " + row.size() + " calls deep: " + row);
                }
            }
        }
    }
}
