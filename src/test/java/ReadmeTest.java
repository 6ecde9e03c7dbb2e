import java.io.File;
import java.io.IOException;
import java.lang.reflect.Method;
import java.net.URL;
import java.net.URLClassLoader;
import java.nio.file.Files;
import java.nio.file.Path;
import java.util.ArrayList;
import java.util.Comparator;
import java.util.List;
import java.util.regex.Matcher;
import java.util.regex.Pattern;
import java.util.stream.Stream;
import javax.tools.JavaCompiler;
import javax.tools.ToolProvider;

/** The examples of README.md answer what stands behind them, and use each call of the face. */
public final class ReadmeTest {
    private static final Pattern ANSWERED =
            Pattern.compile("(desert\\.(\\w+)\\(.*\\)); +// (-?\\d+|true|false|throws \\w+)(:.*)?");
    private static final Pattern CALLED = Pattern.compile("desert\\.(\\w+)\\(");

    private final List<String> calls = new ArrayList<>();
    private final List<String> due = new ArrayList<>();
    private final StringBuilder code = new StringBuilder();

    private ReadmeTest() {
    }

    public static void main(String[] args) throws Exception {
        List<String> page = Files.readAllLines(Path.of("README.md"));
        ReadmeTest test = new ReadmeTest();
        test.writeExamples(page);
        List<?> got = test.runExamples();
        Check.same("answers", got.size(), test.due.size());
        for (int i = 0; i < got.size() && i < test.due.size(); i++) {
            Check.same("README.md " + test.calls.get(i), String.valueOf(got.get(i)), test.due.get(i));
        }
        usesTheWholeFace(page);
        Check.finish("ReadmeTest");
    }

    /** Each example is a block of its own, so that each may call its object desert. */
    private void writeExamples(List<String> page) {
        code.append("public class Examples { public static java.util.List<Object> answers() {\n");
        code.append("java.util.List<Object> got = new java.util.ArrayList<>();\n");
        boolean isJava = false;
        for (String line : page) {
            if (line.startsWith("```")) {
                code.append(isJava ? "}\n" : "");
                isJava = line.equals("```java");
                code.append(isJava ? "{\n" : "");
            } else if (isJava) {
                writeLine(line);
            }
        }
        code.append("return got; } }\n");
    }

    private void writeLine(String line) {
        Matcher m = ANSWERED.matcher(line);
        if (!m.matches()) {
            code.append(line).append('\n');
            return;
        }
        calls.add(m.group(1));
        due.add(m.group(3));
        if (m.group(3).startsWith("throws ")) {
            code.append("try { ").append(m.group(1)).append("; got.add(\"nothing\"); }");
            code.append(" catch (RuntimeException e) { got.add(\"throws \" + e.getClass().getSimpleName()); }\n");
        } else {
            code.append("got.add(").append(m.group(1)).append(");\n");
        }
    }

    private List<?> runExamples() throws Exception {
        Path folder = Files.createTempDirectory("readme");
        try {
            Path file = folder.resolve("Examples.java");
            Files.writeString(file, code);
            JavaCompiler compiler = ToolProvider.getSystemJavaCompiler();
            int code = compiler.run(null, null, null, "-cp", System.getProperty("java.class.path"), "-d",
                    folder.toString(), file.toString());
            Check.same("README.md compiles", code, 0);
            try (URLClassLoader loader = new URLClassLoader(new URL[] {folder.toUri().toURL()})) {
                Method answers = loader.loadClass("Examples").getMethod("answers");
                return (List<?>) answers.invoke(null);
            }
        } finally {
            removeAll(folder);
        }
    }

    private static void removeAll(Path folder) throws IOException {
        try (Stream<Path> all = Files.walk(folder)) {
            all.sorted(Comparator.reverseOrder()).map(Path::toFile).forEach(File::delete);
        }
    }

    private static void usesTheWholeFace(List<String> page) {
        List<String> used = new ArrayList<>();
        for (String line : page) {
            Matcher m = CALLED.matcher(line);
            while (m.find()) {
                used.add(m.group(1));
            }
        }
        for (Method m : DesertChannels.class.getDeclaredMethods()) {
            if (java.lang.reflect.Modifier.isPublic(m.getModifiers())) {
                Check.same("README.md has " + m.getName(), used.contains(m.getName()), true);
            }
        }
    }
}
