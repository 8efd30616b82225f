import java.io.IOException;
import java.net.URL;
import java.net.URLClassLoader;
import java.nio.file.Files;
import java.nio.file.Path;
import java.util.ArrayList;
import java.util.List;
import java.util.regex.Matcher;
import java.util.regex.Pattern;
import javax.tools.ToolProvider;

/** Runs the java code of README.md: a call with a number behind it in a comment must answer that number. */
public final class ReadmeTest {
    private static final Pattern BLOCK = Pattern.compile("```java\n(.*?)```", Pattern.DOTALL);
    private static final Pattern CALL = Pattern.compile("(x\\..*);\\s*// (-?[0-9]+)\\b.*");

    public static void main(String[] args) throws IOException, ReflectiveOperationException {
        List<String> calls = new ArrayList<>();
        List<Long> due = new ArrayList<>();
        String code = code(Files.readString(Path.of("README.md")), calls, due);
        List<?> got = run(code);
        Check.due("calls in README.md", calls.size() > 30 ? 1 : 0, 1);
        for (int i = 0; i < calls.size(); i++) {
            Check.due(calls.get(i), (Long) got.get(i), due.get(i));
        }
        Check.end();
    }

    private static String code(String readme, List<String> calls, List<Long> due) {
        StringBuilder methods = new StringBuilder();
        StringBuilder lines = new StringBuilder();
        Matcher block = BLOCK.matcher(readme);
        while (block.find()) {
            if (block.group(1).startsWith("static ")) {
                methods.append(block.group(1));
                continue;
            }
            for (String line : block.group(1).split("\n")) {
                Matcher call = CALL.matcher(line);
                if (call.matches()) {
                    calls.add(call.group(1));
                    due.add(Long.parseLong(call.group(2)));
                }
                lines.append(call.matches() ? "got.add((long) " + call.group(1) + ");" : line).append("\n");
            }
        }
        return "public class ReadmeCode {\n" + methods + "public static java.util.List<Long> run() {\n"
                + "java.util.List<Long> got = new java.util.ArrayList<>();\n" + lines + "return got;\n}\n}\n";
    }

    private static List<?> run(String code) throws IOException, ReflectiveOperationException {
        Path folder = Files.createTempDirectory("readme");
        Path source = folder.resolve("ReadmeCode.java");
        Path compiled = folder.resolve("ReadmeCode.class");
        try {
            Files.writeString(source, code);
            int failed = ToolProvider.getSystemJavaCompiler().run(null, null, null, "-d", folder.toString(), "-cp",
                    System.getProperty("java.class.path"), source.toString());
            Check.due("the compiler on README.md", failed, 0);
            try (URLClassLoader loader = new URLClassLoader(new URL[] {folder.toUri().toURL()})) {
                return (List<?>) loader.loadClass("ReadmeCode").getMethod("run").invoke(null);
            }
        } finally {
            Files.deleteIfExists(source);
            Files.deleteIfExists(compiled);
            Files.deleteIfExists(folder);
        }
    }
}
