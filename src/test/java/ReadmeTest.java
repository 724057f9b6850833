import java.io.IOException;
import java.net.URL;
import java.net.URLClassLoader;
import java.nio.file.Files;
import java.nio.file.Path;
import java.util.ArrayList;
import java.util.List;
import java.util.regex.Matcher;
import java.util.regex.Pattern;
import javax.tools.JavaCompiler;
import javax.tools.ToolProvider;

/** The examples of README.md are compiled and run: each answers what is written behind it; each call is named. */
public final class ReadmeTest {
    private static final Pattern BLOCK = Pattern.compile("(?s)```java\n(.*?)```");
    private static final Pattern LINE = Pattern.compile("(?:int (\\w+) = )?(.+);\\s*// -> (-?\\w+).*");
    private static final String[] CALLS = {"segment", "brackets", "flags", "word", "define", "link", "start", "handler",
        "run", "state", "pointer", "peek", "stored", "known", "may", "said", "sayings"};

    public static void main(String[] args) throws IOException, ReflectiveOperationException {
        String text = Files.readString(Path.of("README.md"));
        Matcher block = BLOCK.matcher(text);
        int examples = 0;
        while (block.find()) {
            examples++;
            example("Example" + examples, block.group(1));
        }
        Check.due("README.md has examples", examples > 0, true);
        for (String call : CALLS) {
            Check.due("README.md names " + call, text.matches("(?s).*`" + call + "[`(].*"), true);
        }
        Check.due("README.md tells how to run the tests", text.contains(".ci/run"), true);
        Check.finish();
    }

    private static void example(String name, String block) throws IOException, ReflectiveOperationException {
        List<String> calls = new ArrayList<>();
        List<String> due = new ArrayList<>();
        StringBuilder body = new StringBuilder();
        for (String line : block.split("\n")) {
            Matcher parts = LINE.matcher(line);
            if (!parts.matches()) {
                body.append(line).append("\n");
                continue;
            }
            calls.add(parts.group(2));
            due.add(parts.group(3));
            String declared = parts.group(1);
            body.append(declared == null ? "" : line + "\n");
            body.append("answers.add(\"\" + (").append(declared == null ? parts.group(2) : declared).append("));\n");
        }
        List<?> got = answers(name, body.toString());
        Check.due(name + ": answers", got.size(), due.size());
        for (int i = 0; i < Math.min(got.size(), due.size()); i++) {
            Check.due(name + ": " + calls.get(i) + " answers " + got.get(i) + ", README.md says " + due.get(i),
                got.get(i).equals(due.get(i)), true);
        }
    }

    private static List<?> answers(String name, String body) throws IOException, ReflectiveOperationException {
        Path directory = Files.createTempDirectory("readme");
        Path source = directory.resolve(name + ".java");
        Files.writeString(source, "public class " + name + " {\npublic static java.util.List<String> answers() {\n"
            + "java.util.List<String> answers = new java.util.ArrayList<>();\n" + body + "return answers;\n}\n}\n");
        JavaCompiler compiler = ToolProvider.getSystemJavaCompiler();
        int failed = compiler == null ? 1 : compiler.run(null, null, null, "-d", directory.toString(),
            "-cp", System.getProperty("java.class.path"), source.toString());
        Check.due(name + " of README.md does not compile", failed, 0);
        if (failed != 0) {
            return List.of();
        }
        try (URLClassLoader loader = new URLClassLoader(new URL[] {directory.toUri().toURL()})) {
            return (List<?>) loader.loadClass(name).getMethod("answers").invoke(null);
        } finally {
            Files.deleteIfExists(directory.resolve(name + ".class"));
            Files.deleteIfExists(source);
            Files.deleteIfExists(directory);
        }
    }
}
