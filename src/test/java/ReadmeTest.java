import java.io.IOException;
import java.lang.reflect.Method;
import java.lang.reflect.Modifier;
import java.net.URL;
import java.net.URLClassLoader;
import java.nio.charset.StandardCharsets;
import java.nio.file.Files;
import java.nio.file.Path;
import java.util.ArrayList;
import java.util.List;
import java.util.regex.Matcher;
import java.util.regex.Pattern;
import javax.tools.JavaCompiler;
import javax.tools.ToolProvider;

/**
 * Each call of the example in README.md answers the number that stands behind it there, and each
 * method of the face is named. It is run from the project's root.
 */
public final class ReadmeTest {
    private static final Pattern NUMBERED = Pattern.compile("(?:int (\\w+) = )?(bench\\..*\\));\\s+// (-?\\d+): .*");

    private ReadmeTest() {
    }

    public static void main(String[] args) throws IOException, ReflectiveOperationException {
        String readme = Files.readString(Path.of("README.md"), StandardCharsets.UTF_8);
        Path work = Files.createTempDirectory("readme");
        try {
            runExample(exampleIn(readme), work);
        } finally {
            Files.deleteIfExists(work.resolve("Example.java"));
            Files.deleteIfExists(work.resolve("Example.class"));
            Files.delete(work);
        }
        namesTheFace(readme);
        Due.end();
    }

    private static void namesTheFace(String readme) {
        for (Method method : StartBench.class.getDeclaredMethods()) {
            if (Modifier.isPublic(method.getModifiers())) {
                Due.isTrue("README.md names " + method.getName(), readme.contains("`" + method.getName() + "("));
            }
        }
    }

    private static List<String> exampleIn(String readme) {
        String opening = "```java\n";
        int from = readme.indexOf(opening);
        int to = readme.indexOf("\n```\n", Math.max(from, 0));
        Due.isTrue("README.md has an example", from >= 0 && to > from);
        return from < 0 || to < from ? List.of() : List.of(readme.substring(from + opening.length(), to).split("\n"));
    }

    private static void runExample(List<String> lines, Path work) throws IOException, ReflectiveOperationException {
        List<String> calls = new ArrayList<>();
        List<Integer> wanted = new ArrayList<>();
        StringBuilder code = new StringBuilder("public class Example {\npublic static int[] run() {\n");
        StringBuilder answers = new StringBuilder();
        for (String line : lines) {
            Matcher call = NUMBERED.matcher(line);
            if (call.matches()) {
                String name = call.group(1) == null ? "answer" + calls.size() : call.group(1);
                code.append("int ").append(name).append(" = ").append(call.group(2)).append(";\n");
                answers.append(name).append(", ");
                calls.add(call.group(2));
                wanted.add(Integer.valueOf(call.group(3)));
            } else {
                Due.isTrue("a call with its answer: " + line, line.isEmpty() || line.startsWith("StartBench bench"));
                code.append(line).append('\n');
            }
        }
        code.append("return new int[] {").append(answers).append("};\n}\n}\n");
        int[] got = answersOf(code.toString(), work);
        for (int i = 0; i < calls.size(); i++) {
            Due.due("README.md: " + calls.get(i), got[i], wanted.get(i));
        }
    }

    private static int[] answersOf(String code, Path work) throws IOException, ReflectiveOperationException {
        Path file = work.resolve("Example.java");
        Files.writeString(file, code, StandardCharsets.UTF_8);
        JavaCompiler javac = ToolProvider.getSystemJavaCompiler();
        int ended = javac.run(null, null, null, "-cp", System.getProperty("java.class.path"), "-d", work.toString(),
            file.toString());
        if (ended != 0) {
            throw new IllegalStateException("the example in README.md does not compile");
        }
        try (URLClassLoader loader = new URLClassLoader(new URL[] {work.toUri().toURL()})) {
            return (int[]) loader.loadClass("Example").getMethod("run").invoke(null);
        }
    }
}
