import com.sun.source.tree.CompilationUnitTree;
import com.sun.source.tree.MemberSelectTree;
import com.sun.source.tree.MethodInvocationTree;
import com.sun.source.tree.MethodTree;
import com.sun.source.tree.NewClassTree;
import com.sun.source.tree.Tree;
import com.sun.source.util.JavacTask;
import com.sun.source.util.TreePathScanner;
import com.sun.source.util.Trees;
import java.lang.management.ManagementFactory;
import java.lang.reflect.Constructor;
import java.lang.reflect.Field;
import java.lang.reflect.Method;
import java.lang.reflect.Modifier;
import java.nio.file.Files;
import java.nio.file.Path;
import java.util.Arrays;
import java.util.HashSet;
import java.util.LinkedHashMap;
import java.util.LinkedHashSet;
import java.util.List;
import java.util.Map;
import java.util.Set;
import java.util.TreeSet;
import javax.lang.model.element.Element;
import javax.lang.model.element.ElementKind;
import javax.lang.model.element.TypeElement;
import javax.tools.JavaCompiler;
import javax.tools.StandardJavaFileManager;
import javax.tools.ToolProvider;

/** The rules of ../shared/LANGUAGE.md, as far as they can be told from the file and the compiled class. */
public final class LanguageTest {
    private static final Path SOURCE = Path.of("src/main/java/LineDoubler.java");
    private static final Set<String> LIBRARY = Set.of("java.lang.System.arraycopy", "java.lang.Math.min", "java.lang.Math.max",
            "java.lang.Object.<init>");
    private static final Set<Tree.Kind> RULED_OUT = Set.of(Tree.Kind.LAMBDA_EXPRESSION, Tree.Kind.MEMBER_REFERENCE,
            Tree.Kind.SYNCHRONIZED, Tree.Kind.ASSERT, Tree.Kind.THROW, Tree.Kind.TRY, Tree.Kind.IMPORT, Tree.Kind.PACKAGE,
            Tree.Kind.ANNOTATION, Tree.Kind.INSTANCE_OF, Tree.Kind.STRING_LITERAL);
    private static final String[] FACE = {"int set(int,int)", "int value(int,int)", "int slip(int,int)", "int pass(int)",
        "int flush()", "int waiting(int,int)", "int row(int,int)", "int ofMissing(int,int)", "int count(int)", "int shown()",
        "int ratio()", "long fill()", "int would(int,int)", "int leastRoom(int)", "int bestOut(int,int)", "int put(long)",
        "int wipe()", "int fault()", "int carryOut()", "int undo()", "int save(int)", "int restore(int)"};
    private static final String[] CONSTANTS = {"NO_SUCH=-1", "BAD_VALUE=-2", "BAD_TEXT=-3", "TOO_MANY=-4", "NOT_POSSIBLE=-5",
        "NONE=-6", "IN=0", "OUT=1", "ROOM=2", "HEIGHT=3", "DROP=4", "SYNC=5", "COLOUR=6", "SCROLL=7", "CLEAN=0", "TORN=1",
        "BLANKED=2"};

    public static void main(String[] args) throws Exception {
        Check.run(LanguageTest.class);
    }

    private static void hold(boolean holds, String rule) {
        if (!holds) {
            Check.fail(rule);
        }
    }

    private static String signature(Method method) {
        StringBuilder signature = new StringBuilder();
        signature.append(method.getReturnType().getName()).append(' ').append(method.getName()).append('(');
        for (Class<?> type : method.getParameterTypes()) {
            signature.append(signature.charAt(signature.length() - 1) == '(' ? "" : ",").append(type.getName());
        }
        return signature.append(')').toString();
    }

    static void rule01TheFace() throws Exception {
        Set<String> methods = new TreeSet<>();
        for (Method method : LineDoubler.class.getDeclaredMethods()) {
            if (Modifier.isPublic(method.getModifiers())) {
                methods.add(signature(method));
            } else {
                hold(Modifier.isPrivate(method.getModifiers()), "not private: " + method);
            }
        }
        Check.same("the public methods", methods.toString(), new TreeSet<>(Arrays.asList(FACE)).toString());
        Set<String> constants = new TreeSet<>();
        for (Field field : LineDoubler.class.getDeclaredFields()) {
            if (Modifier.isPublic(field.getModifiers())) {
                hold(Modifier.isStatic(field.getModifiers()) && Modifier.isFinal(field.getModifiers()), "no constant: " + field);
                constants.add(field.getName() + "=" + field.getInt(null));
            } else {
                hold(Modifier.isPrivate(field.getModifiers()), "not private: " + field);
            }
        }
        Check.same("the constants", constants.toString(), new TreeSet<>(Arrays.asList(CONSTANTS)).toString());
        Constructor<?>[] constructors = LineDoubler.class.getDeclaredConstructors();
        Check.due("constructors", constructors.length, 1);
        hold(Modifier.isPublic(constructors[0].getModifiers()) && constructors[0].getParameterCount() == 0, "the constructor");
        int modifiers = LineDoubler.class.getModifiers();
        hold(Modifier.isPublic(modifiers) && Modifier.isFinal(modifiers), "public and final");
    }

    static void rule01NamesAndClassesInside() {
        Set<String> face = new HashSet<>();
        for (String method : FACE) {
            face.add(method.substring(method.indexOf(' ') + 1, method.indexOf('(')));
        }
        Class<?>[] inside = LineDoubler.class.getDeclaredClasses();
        hold(inside.length < 12, "at most some twelve classes");
        for (Class<?> type : inside) {
            int modifiers = type.getModifiers();
            hold(Modifier.isStatic(modifiers) && !Modifier.isPublic(modifiers) && !Modifier.isProtected(modifiers), "" + type);
            for (Method method : type.getDeclaredMethods()) {
                hold(!face.contains(method.getName()), "a name of the face: " + method);
            }
        }
        for (Method method : LineDoubler.class.getDeclaredMethods()) {
            hold(Modifier.isPublic(method.getModifiers()) || !face.contains(method.getName()), "a name of the face: " + method);
        }
    }

    static void rule05StaticFieldsAreConstants() {
        Set<Class<?>> types = Set.of(int.class, long.class, boolean.class, char.class, String.class, int[].class, long[].class,
                char[].class, byte[].class);
        for (Class<?> type : all()) {
            int fields = 0;
            for (Field field : type.getDeclaredFields()) {
                if (Modifier.isStatic(field.getModifiers())) {
                    hold(Modifier.isFinal(field.getModifiers()) && types.contains(field.getType()), "rule 5: " + field);
                } else {
                    fields++;
                }
            }
            hold(fields <= 20, "some twenty fields: " + type);
        }
    }

    private static Class<?>[] all() {
        Class<?>[] inside = LineDoubler.class.getDeclaredClasses();
        Class<?>[] all = Arrays.copyOf(inside, inside.length + 1);
        all[inside.length] = LineDoubler.class;
        return all;
    }

    /** What each method calls, and whatever a rule speaks against. */
    private static final class Reader extends TreePathScanner<Void, Void> {
        final Map<Element, Set<Element>> calls = new LinkedHashMap<>();
        private final Trees trees;
        private Set<Element> callsHere = new LinkedHashSet<>();

        Reader(Trees trees) {
            this.trees = trees;
        }

        @Override
        public Void scan(Tree tree, Void none) {
            hold(tree == null || !RULED_OUT.contains(tree.getKind()), "ruled out: " + tree);
            return super.scan(tree, none);
        }

        @Override
        public Void visitMethod(MethodTree method, Void none) {
            Set<Element> around = callsHere;
            callsHere = new LinkedHashSet<>();
            calls.put(trees.getElement(getCurrentPath()), callsHere);
            hold(method.getParameters().size() <= 7, "rule 11: " + method.getName());
            super.visitMethod(method, none);
            callsHere = around;
            return null;
        }

        @Override
        public Void visitMethodInvocation(MethodInvocationTree call, Void none) {
            callsHere.add(trees.getElement(getCurrentPath()));
            return super.visitMethodInvocation(call, none);
        }

        @Override
        public Void visitMemberSelect(MemberSelectTree select, Void none) {
            Element chosen = trees.getElement(getCurrentPath());
            boolean isField = chosen != null && chosen.getKind() == ElementKind.FIELD;
            hold(!isField || chosen.getSimpleName().contentEquals("length")
                    || chosen.getEnclosingElement().toString().startsWith("LineDoubler"), "rule 4: " + select);
            return super.visitMemberSelect(select, none);
        }

        @Override
        public Void visitNewClass(NewClassTree made, Void none) {
            callsHere.add(trees.getElement(getCurrentPath()));
            return super.visitNewClass(made, none);
        }
    }

    private static Reader read() throws Exception {
        JavaCompiler compiler = ToolProvider.getSystemJavaCompiler();
        try (StandardJavaFileManager files = compiler.getStandardFileManager(null, null, null)) {
            JavacTask task = (JavacTask) compiler.getTask(null, files, null, List.of("-proc:none"), null,
                    files.getJavaFileObjects(SOURCE));
            Iterable<? extends CompilationUnitTree> units = task.parse();
            task.analyze();
            Reader reader = new Reader(Trees.instance(task));
            for (CompilationUnitTree unit : units) {
                Check.due("classes at the top", unit.getTypeDecls().size(), 1);
                reader.scan(unit, null);
            }
            return reader;
        }
    }

    static void rules04And06OnlyWhatTheyList() throws Exception {
        for (Set<Element> called : read().calls.values()) {
            for (Element method : called) {
                String name = ((TypeElement) method.getEnclosingElement()).getQualifiedName() + "." + method.getSimpleName();
                hold(name.startsWith("LineDoubler.") || LIBRARY.contains(name), "rule 4: " + name);
            }
        }
    }

    static void rules08And11CallsAreEightDeepAndNoRecursion() throws Exception {
        Map<Element, Set<Element>> calls = read().calls;
        hold(calls.size() > 40, "the methods are read");
        int deepest = 0;
        for (Element method : calls.keySet()) {
            deepest = Math.max(deepest, depth(calls, method, 1));
        }
        hold(deepest >= 5 && deepest <= 8, "rule 11: calls go " + deepest + " deep");
    }

    private static int depth(Map<Element, Set<Element>> calls, Element method, int here) {
        int deepest = here;
        if (here > 20) {
            return here;
        }
        for (Element called : calls.getOrDefault(method, Set.of())) {
            deepest = Math.max(deepest, depth(calls, called, here + 1));
        }
        return deepest;
    }

    static void rule11MethodsStayShort() throws Exception {
        int start = 0;
        int at = 0;
        for (String line : Files.readAllLines(SOURCE)) {
            at++;
            if (line.matches("    (    )?[a-z].*\\) \\{")) {
                start = at;
            }
            hold(!line.matches("    (    )?\\}") || at - start <= 60 || line.equals("    }"), "too long: it ends at line " + at);
            for (int i = 0; i < line.length(); i++) {
                hold(line.charAt(i) >= 32 && line.charAt(i) < 127, "a sign above 126 in line " + at);
            }
        }
    }

    /** All calls of a run live in one room: what the dearest of them make is next to nothing. */
    static void rule12RunsMakeLittle() {
        com.sun.management.ThreadMXBean threads = (com.sun.management.ThreadMXBean) ManagementFactory.getThreadMXBean();
        dearRun();
        long thread = Thread.currentThread().getId();
        long before = threads.getThreadAllocatedBytes(thread);
        dearRun();
        long made = threads.getThreadAllocatedBytes(thread) - before;
        hold(made < 64_000, "a run makes " + made + " bytes");
    }

    private static void dearRun() {
        LineDoubler x = new LineDoubler();
        for (int call = 0; call < 40; call++) {
            x.pass(call + 1);
            x.bestOut(999, call & 1);
            x.leastRoom(999);
            x.would(999, call % 3);
            x.set(LineDoubler.DROP, call & 1);
            x.save(call & 1);
            x.restore(call & 1);
            x.put('t');
            x.put('9');
            x.fault();
            x.carryOut();
            x.flush();
            x.undo();
        }
    }
}
