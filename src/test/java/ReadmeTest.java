import java.io.IOException;
import java.lang.reflect.Method;
import java.lang.reflect.Modifier;
import java.net.URL;
import java.net.URLClassLoader;
import java.nio.file.Files;
import java.nio.file.Path;
import java.util.HashSet;
import java.util.List;
import java.util.Set;
import java.util.function.ObjLongConsumer;
import java.util.regex.Matcher;
import java.util.regex.Pattern;
import javax.tools.JavaCompiler;
import javax.tools.ToolProvider;

/** The examples of README.md: made into one program and run, so that they can't come to tell what is not so. */
public final class ReadmeTest {
    private static final Pattern ANSWERED = Pattern.compile("(clock\\.(\\w+)\\(.*\\));\\s+// (-?[0-9]+|[A-Z]+)(?:: .*)?");

    private static final Checks CHECKS = new Checks();

    public static void main(String[] args) throws Exception {
        List<String> lines = Files.readAllLines(Path.of(args[0], "README.md"));
        Set<String> shown = new HashSet<>();
        StringBuilder body = new StringBuilder();
        boolean inExample = false;
        for (String line : lines) {
            if (line.startsWith("```")) {
                inExample = line.equals("```java");
            } else if (inExample) {
                body.append(statement(line, shown)).append('\n');
            }
        }
        for (Method method : StabilityAnalyzer.class.getDeclaredMethods()) {
            if (Modifier.isPublic(method.getModifiers())) {
                CHECKS.holds("an example shows " + method.getName(), shown.contains(method.getName()));
            }
        }
        String text = String.join("\n", lines);
        for (String code : new String[] {"NONE", "BAD", "STATE", "FULL", "LARGE"}) {
            CHECKS.holds("it tells of " + code, text.contains("`" + code + "`"));
        }
        CHECKS.holds("it tells how to run the tests", text.contains("\n.ci/run\n"));
        run(body.toString());
        CHECKS.close();
    }

    /** A call with an answer behind it becomes a check; what else stands there stays. */
    private static String statement(String line, Set<String> shown) {
        Matcher answered = ANSWERED.matcher(line);
        if (!answered.matches()) {
            CHECKS.holds("no answer is lost: " + line, !line.contains("//"));
            return line;
        }
        shown.add(answered.group(2));
        String answer = answered.group(3);
        String due = Character.isUpperCase(answer.charAt(0)) ? "StabilityAnalyzer." + answer : answer;
        return "due.accept(\"" + answered.group(1).replace("\"", "\\\"") + " is not " + answer + "\", "
            + answered.group(1) + " - (long) " + due + ");";
    }

    private static void run(String body) throws Exception {
        Path folder = Files.createTempDirectory("readme");
        Path source = folder.resolve("ReadmeExamples.java");
        try {
            Files.writeString(source, "public final class ReadmeExamples {\n"
                + "public static void run(java.util.function.ObjLongConsumer<String> due) {\n" + body + "}\n}\n");
            JavaCompiler compiler = ToolProvider.getSystemJavaCompiler();
            int compiled = compiler.run(null, System.out, System.out, "-proc:none", "-d", folder.toString(),
                "-cp", System.getProperty("java.class.path"), source.toString());
            CHECKS.due("compilation of the examples", compiled, 0);
            if (compiled == 0) {
                call(folder);
            }
        } finally {
            remove(folder);
        }
    }

    private static void call(Path folder) throws Exception {
        ObjLongConsumer<String> due = (told, distance) -> CHECKS.due(told + ", the distance", distance, 0);
        try (URLClassLoader loader = new URLClassLoader(new URL[] {folder.toUri().toURL()})) {
            loader.loadClass("ReadmeExamples").getMethod("run", ObjLongConsumer.class).invoke(null, due);
        }
    }

    private static void remove(Path folder) throws IOException {
        Files.deleteIfExists(folder.resolve("ReadmeExamples.java"));
        Files.deleteIfExists(folder.resolve("ReadmeExamples.class"));
        Files.delete(folder);
    }
}
