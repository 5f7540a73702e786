import com.sun.source.tree.*;
import com.sun.source.util.JavacTask;
import com.sun.source.util.TreeScanner;
import java.lang.reflect.Constructor;
import java.lang.reflect.Field;
import java.lang.reflect.Member;
import java.lang.reflect.Method;
import java.lang.reflect.Modifier;
import java.nio.file.Files;
import java.nio.file.Path;
import java.util.ArrayList;
import java.util.Arrays;
import java.util.HashMap;
import java.util.HashSet;
import java.util.List;
import java.util.Map;
import java.util.Set;
import java.util.TreeSet;
import javax.tools.JavaCompiler;
import javax.tools.StandardJavaFileManager;
import javax.tools.ToolProvider;

/** The face of the document, and what of ../shared/LANGUAGE.md can be looked at in the source. Runs at the project's root. */
public final class LanguageTest {
    private static final Path SOURCE = Path.of("src/main/java/HangmanDinner.java");
    private static final String[] FACE = {
        "int house(int,int,int)", "int of(int,int)", "int set(int,int,int)", "int shut(int,boolean)", "int swap(int,int)",
        "int row(int,int,int)", "int feed(int)", "int town()", "int told(int)", "int pass(int)", "int on(int,int)",
        "int doors(int)", "int feign(int,int)", "int see(int,int)", "int can(int,int,int)", "long odds(int,int)",
        "long mean(int,int)", "int plan(int,int)", "int ends(int)", "int book(int,int)", "int looked()",
        "int judge(int,int)", "int image()", "int undo()", "int act(int,int,int)", "int trace(int)", "int taken(int,int)",
        "int count(int)", "int tape(int,int,int)", "int item(int,int,long)", "long read(int,int)",
        "int shift(int,int,int,int,int)"};
    /** What may stand in the source, beside leaves: names, literals, types. */
    private static final Set<Tree.Kind> REFUSED = Set.of(Tree.Kind.THROW, Tree.Kind.TRY, Tree.Kind.CATCH, Tree.Kind.SYNCHRONIZED,
        Tree.Kind.ASSERT, Tree.Kind.LAMBDA_EXPRESSION, Tree.Kind.MEMBER_REFERENCE, Tree.Kind.SWITCH_EXPRESSION, Tree.Kind.YIELD,
        Tree.Kind.IMPORT, Tree.Kind.PACKAGE, Tree.Kind.ANNOTATION);
    private static final Set<String> LIBRARY = Set.of("System.arraycopy", "Math.min", "Math.max", "length", "charAt", "indexOf");

    private static int wrong = 0;

    public static void main(String[] args) throws Exception {
        face();
        source();
        System.out.println(wrong == 0 ? "the source keeps to the rules" : wrong + " rules are broken");
        if (wrong != 0) System.exit(1);
    }

    private static void rule(int rule, boolean kept, String what) {
        if (kept) return;
        wrong++;
        System.out.println("rule " + rule + ": " + what);
    }

    private static void face() {
        Class<?> c = HangmanDinner.class;
        rule(1, Modifier.isPublic(c.getModifiers()) && Modifier.isFinal(c.getModifiers()), "the class is public and final");
        Set<String> want = new TreeSet<>(Arrays.asList(FACE));
        Set<String> got = new TreeSet<>();
        Set<String> names = new HashSet<>();
        for (Method m : c.getDeclaredMethods()) {
            if (Modifier.isPublic(m.getModifiers())) {
                got.add(told(m));
                names.add(m.getName());
                rule(1, !Modifier.isStatic(m.getModifiers()), m + " is of an object");
            } else {
                rule(1, Modifier.isPrivate(m.getModifiers()), m + " is private");
            }
        }
        rule(1, want.equals(got), "the methods are those of the face, not " + got);
        for (Method m : c.getDeclaredMethods()) {
            if (Modifier.isPrivate(m.getModifiers())) rule(1, !names.contains(m.getName()), m + " bears a public name");
        }
        Constructor<?>[] all = c.getDeclaredConstructors();
        rule(1, all.length == 1 && all[0].getParameterCount() == 0 && Modifier.isPublic(all[0].getModifiers()), "the constructor");
        for (Field f : c.getDeclaredFields()) constant(f);
        for (Class<?> inner : c.getDeclaredClasses()) {
            rule(2, Modifier.isStatic(inner.getModifiers()) && !Modifier.isPublic(inner.getModifiers()), inner + " is static");
            for (Method m : inner.getDeclaredMethods()) rule(1, !names.contains(m.getName()), m + " bears a public name");
            for (Field f : inner.getDeclaredFields()) staticIsFinal(f);
            rule(11, inner.getDeclaredFields().length - statics(inner) <= 20, "the fields of " + inner);
        }
        rule(11, c.getDeclaredClasses().length <= 12, "twelve classes");
        rule(11, c.getDeclaredFields().length - statics(c) <= 20, "twenty fields");
    }

    private static int statics(Class<?> c) {
        int n = 0;
        for (Field f : c.getDeclaredFields()) n += Modifier.isStatic(f.getModifiers()) ? 1 : 0;
        return n;
    }

    private static String told(Method m) {
        StringBuilder s = new StringBuilder(m.getReturnType() + " " + m.getName() + "(");
        for (Class<?> p : m.getParameterTypes()) s.append(s.charAt(s.length() - 1) == '(' ? "" : ",").append(p);
        return s.append(")").toString();
    }

    private static void constant(Field f) {
        boolean named = Set.of("NONE", "BAD", "STATE", "FULL", "NO").contains(f.getName());
        rule(1, named == isPublic(f) && (named || Modifier.isPrivate(f.getModifiers())), f + " is of the face or private");
        staticIsFinal(f);
    }

    private static boolean isPublic(Member m) {
        return Modifier.isPublic(m.getModifiers());
    }

    private static void staticIsFinal(Field f) {
        if (!Modifier.isStatic(f.getModifiers())) return;
        rule(5, Modifier.isFinal(f.getModifiers()), f + " is final");
        Set<Class<?>> may = Set.of(int.class, long.class, boolean.class, char.class, String.class, int[].class, long[].class, char[].class, byte[].class);
        rule(5, may.contains(f.getType()), f + " is of a type that a static field may have");
    }

    private static void source() throws Exception {
        String text = Files.readString(SOURCE);
        for (int i = 0; i < text.length(); i++) rule(4, text.charAt(i) < 127, "a sign above 126 at " + i);
        JavaCompiler compiler = ToolProvider.getSystemJavaCompiler();
        try (StandardJavaFileManager files = compiler.getStandardFileManager(null, null, null)) {
            JavacTask task = (JavacTask) compiler.getTask(null, files, null, null, null, files.getJavaFileObjects(SOURCE));
            for (CompilationUnitTree unit : task.parse()) {
                Looker looker = new Looker(unit);
                looker.scan(unit, null);
                looker.end();
            }
        }
    }

    /** Walks over the source: what stands in it, how long its methods are, who calls whom. */
    private static final class Looker extends TreeScanner<Void, Void> {
        private final CompilationUnitTree unit;
        private final Map<String, Set<String>> calls = new HashMap<>();
        private final List<String> called = new ArrayList<>();
        private String method = "";

        Looker(CompilationUnitTree unit) {
            this.unit = unit;
        }

        @Override
        public Void scan(Tree tree, Void none) {
            if (tree != null) rule(6, !REFUSED.contains(tree.getKind()), tree.getKind() + ": " + tree);
            return super.scan(tree, none);
        }

        private long line(long position) {
            return unit.getLineMap().getLineNumber(position);
        }

        @Override
        public Void visitMethod(MethodTree m, Void none) {
            method = m.getName().toString();
            rule(11, m.getParameters().size() <= 7, method + " takes at most seven");
            long lines = m.toString().lines().count();
            rule(11, lines <= 60, method + " has " + lines + " lines");
            calls.putIfAbsent(method, new TreeSet<>());
            super.visitMethod(m, none);
            method = "";
            return null;
        }

        @Override
        public Void visitMethodInvocation(MethodInvocationTree call, Void none) {
            String whole = call.getMethodSelect().toString();
            String name = whole.substring(whole.lastIndexOf('.') + 1);
            called.add(whole);
            calls.computeIfAbsent(method, key -> new TreeSet<>()).add(name);
            return super.visitMethodInvocation(call, none);
        }

        @Override
        public Void visitNewClass(NewClassTree made, Void none) {
            boolean once = method.isEmpty() || method.equals("<init>") || method.equals("understand");
            rule(12, once, "new in " + method + ": " + made);
            rule(2, made.getClassBody() == null, "a class without a name");
            return super.visitNewClass(made, none);
        }

        @Override
        public Void visitNewArray(NewArrayTree made, Void none) {
            rule(12, method.isEmpty() || method.equals("<init>"), "new in " + method + ": " + made);
            return super.visitNewArray(made, none);
        }

        @Override
        public Void visitBinary(BinaryTree two, Void none) {
            boolean division = two.getKind() == Tree.Kind.DIVIDE || two.getKind() == Tree.Kind.REMAINDER;
            boolean sure = two.getRightOperand().getKind() == Tree.Kind.INT_LITERAL;
            rule(7, !division || sure || method.equals("lowest") || method.equals("divisor"), "a divisor: " + two);
            rule(10, two.getKind() != Tree.Kind.PLUS || !two.toString().contains("\""), "joined by +: " + two);
            return super.visitBinary(two, none);
        }

        void end() {
            for (String whole : called) {
                String name = whole.substring(whole.lastIndexOf('.') + 1);
                boolean own = calls.containsKey(name) || name.equals("super");
                rule(4, own || LIBRARY.contains(name) || LIBRARY.contains(whole), whole + " is not of the library that may be used");
            }
            for (String name : calls.keySet()) {
                if (!name.equals("<init>") && !name.isEmpty()) rule(11, depth(name, new HashSet<>()) <= 8, name + " calls too deep");
            }
        }

        /** The most calls that stand open at once, one that calls itself again counted once. */
        private int depth(String name, Set<String> open) {
            if (!calls.containsKey(name) || !open.add(name)) return 0;
            int most = 0;
            for (String other : calls.get(name)) most = Math.max(most, depth(other, open));
            open.remove(name);
            return most + 1;
        }
    }
}
