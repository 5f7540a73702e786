import java.io.File;
import java.lang.reflect.Method;
import java.lang.reflect.Modifier;
import java.net.URL;
import java.net.URLClassLoader;
import java.nio.file.Files;
import java.nio.file.Path;
import java.util.ArrayList;
import java.util.List;
import java.util.regex.Matcher;
import java.util.regex.Pattern;
import java.util.stream.Stream;
import javax.tools.ToolProvider;

/** README.md: its example answers what stands behind each call, and nothing of what there is goes untold. Runs at the project's root. */
public final class ReadmeTest {
    private static final Pattern ANSWERED = Pattern.compile("(street\\..*); +// (-?\\d+): .*");
    private static final Pattern BLOCK = Pattern.compile("```java\n(.*?)```", Pattern.DOTALL);

    public static void main(String[] args) throws Exception {
        String readme = Files.readString(Path.of("README.md"));
        example(readme);
        calls(readme);
        tests(readme);
        HelperDue.end();
    }

    private static void example(String readme) throws Exception {
        Matcher block = BLOCK.matcher(readme);
        boolean found = block.find();
        HelperDue.due("README.md has an example", found);
        if (!found) return;
        List<String> calls = new ArrayList<>();
        List<Long> want = new ArrayList<>();
        StringBuilder program = new StringBuilder("import java.util.*;\npublic final class Example {\n");
        program.append("public static List<Long> answers() {\nList<Long> got = new ArrayList<>();\n");
        for (String line : block.group(1).split("\n")) {
            Matcher call = ANSWERED.matcher(line);
            boolean answered = call.matches();
            HelperDue.due("README.md tells an answer: " + line, answered || !line.startsWith("street."));
            program.append(answered ? "got.add((long) " + call.group(1) + ");" : line).append('\n');
            if (!answered) continue;
            calls.add(call.group(1));
            want.add(Long.parseLong(call.group(2)));
        }
        List<?> got = run(program.append("return got;\n}\n}\n").toString());
        HelperDue.due("README.md: the example runs", got.size(), want.size());
        for (int i = 0; i < got.size(); i++) HelperDue.due("README.md: " + calls.get(i), (Long) got.get(i), want.get(i));
    }

    /** Compiles and runs it: what it answers, nothing if it does not compile. */
    private static List<?> run(String program) throws Exception {
        Path made = Files.createTempDirectory("readme");
        Path source = made.resolve("Example.java");
        Files.writeString(source, program);
        String path = System.getProperty("java.class.path");
        int failed = ToolProvider.getSystemJavaCompiler().run(null, null, null, "-cp", path, "-d", made.toString(), source.toString());
        List<?> got = List.of();
        if (failed == 0) {
            try (URLClassLoader loader = new URLClassLoader(new URL[] {made.toUri().toURL()})) {
                got = (List<?>) loader.loadClass("Example").getMethod("answers").invoke(null);
            }
        }
        for (File file : made.toFile().listFiles()) file.delete();
        Files.delete(made);
        return got;
    }

    /** Each call stands in the table with as many names as it takes, and in the example. */
    private static void calls(String readme) {
        for (Method m : HangmanDinner.class.getDeclaredMethods()) {
            if (!Modifier.isPublic(m.getModifiers())) continue;
            String names = "\\w+(, \\w+){" + (m.getParameterCount() - 1) + "}";
            String told = "`" + m.getName() + "\\(" + (m.getParameterCount() == 0 ? "" : names) + "\\)`";
            HelperDue.due("README.md: the table tells of " + m.getName(), Pattern.compile("\n\\|.*" + told).matcher(readme).find());
        }
        for (String refusal : "`NONE` (-1),`BAD` (-2),`STATE` (-3),`FULL` (-4),-10001,`NO`,-5,-11,-12,-13,-14".split(",")) {
            HelperDue.due("README.md tells of " + refusal, readme.contains(refusal));
        }
    }

    private static void tests(String readme) throws Exception {
        try (Stream<Path> files = Files.list(Path.of("src/test/java"))) {
            for (Object file : files.toArray()) {
                String name = ((Path) file).getFileName().toString().replace(".java", "");
                boolean test = name.endsWith("Test");
                HelperDue.due("README.md tells of " + name, !test || readme.contains("`" + name + "`"));
            }
        }
    }
}
