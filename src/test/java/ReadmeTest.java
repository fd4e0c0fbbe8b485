import java.io.IOException;
import java.lang.reflect.Method;
import java.net.URL;
import java.net.URLClassLoader;
import java.nio.charset.StandardCharsets;
import java.nio.file.Files;
import java.nio.file.Path;
import java.util.ArrayList;
import java.util.Comparator;
import java.util.List;
import java.util.regex.Matcher;
import java.util.regex.Pattern;
import java.util.stream.Stream;
import javax.tools.ToolProvider;

/** What README.md shows, answered as it says: its Java is compiled, with each answer compared. */
public final class ReadmeTest {
    private static final Path README = Path.of("README.md");
    private static final Pattern SHOWN = Pattern.compile("(\\s*)(x\\.\\w+\\(.*?\\)); +// (-?\\d+)(\\D.*)?");
    private static final int ANSWERS = 50;

    /** For what README.md shows, which is loaded apart from the tests. */
    public static void due(String call, long got, long want) {
        Check.due(call, got, want);
    }

    private static List<String> blocks(List<String> lines) {
        List<String> blocks = new ArrayList<>();
        StringBuilder block = null;
        for (String line : lines) {
            if (line.equals("```java")) {
                block = new StringBuilder();
            } else if (line.equals("```")) {
                blocks.add(block + "");
                block = null;
            } else if (block != null) {
                block.append(line).append('\n');
            }
        }
        Check.due("each block of Java is closed", block == null ? 1 : 0, 1);
        return blocks;
    }

    private static String compared(String block) {
        StringBuilder code = new StringBuilder();
        for (String line : block.split("\n")) {
            Matcher shown = SHOWN.matcher(line);
            if (shown.matches()) {
                line = "ReadmeTest.due(\"" + shown.group(2) + "\", " + shown.group(2) + ", " + shown.group(3) + ");";
            } else {
                Check.due("no answer that is not compared: " + line, line.contains("//") ? 1 : 0, 0);
            }
            code.append(line).append('\n');
        }
        return code + "";
    }

    private static String source(List<String> blocks) {
        StringBuilder members = new StringBuilder();
        StringBuilder statements = new StringBuilder();
        for (String block : blocks) {
            if (block.startsWith("static ")) {
                members.append(block);
            } else {
                statements.append(compared(block));
            }
        }
        return "public final class Shown {\n" + members + "public static void run() {\n" + statements + "}\n}\n";
    }

    private static void run(String source) throws IOException, ReflectiveOperationException {
        Path folder = Files.createTempDirectory("readme");
        try {
            Path file = folder.resolve("Shown.java");
            Files.write(file, source.getBytes(StandardCharsets.UTF_8));
            int compiled = ToolProvider.getSystemJavaCompiler().run(null, null, null, "-proc:none", "-cp",
                System.getProperty("java.class.path"), "-d", folder + "", file + "");
            Check.due("compiling what README.md shows", compiled, 0);
            if (compiled == 0) {
                try (URLClassLoader loader = new URLClassLoader(new URL[] {folder.toUri().toURL()})) {
                    loader.loadClass("Shown").getMethod("run").invoke(null);
                }
            }
        } finally {
            remove(folder);
        }
    }

    private static void remove(Path folder) throws IOException {
        try (Stream<Path> files = Files.walk(folder)) {
            for (Path file : files.sorted(Comparator.reverseOrder()).toList()) {
                Files.delete(file);
            }
        }
    }

    private static void names(String page, List<String> blocks) throws IOException {
        for (Method method : PassiveChecks.class.getMethods()) {
            if (method.getDeclaringClass() == PassiveChecks.class) {
                String name = method.getName();
                Check.due("`" + name + "` is named", page.contains("`" + name + "`") ? 1 : 0, 1);
                Check.due(name + " is shown", (blocks + "").contains("x." + name + "(") ? 1 : 0, 1);
            }
        }
        try (Stream<Path> files = Files.list(Path.of("src/test/java"))) {
            for (Path file : files.toList()) {
                String name = (file.getFileName() + "").replace(".java", "");
                boolean isNamed = !name.endsWith("Test") || page.contains("\n| " + name + " | ");
                Check.due("test " + name + " is named", isNamed ? 1 : 0, 1);
            }
        }
    }

    public static void main(String[] args) throws IOException, ReflectiveOperationException {
        Check.in("README.md");
        List<String> lines = Files.readAllLines(README, StandardCharsets.UTF_8);
        List<String> blocks = blocks(lines);
        names(String.join("\n", lines), blocks);
        String source = source(blocks);
        int answers = source.split("ReadmeTest\\.due", -1).length - 1;
        Check.due("at least " + ANSWERS + " answers are shown, here " + answers, answers >= ANSWERS ? 1 : 0, 1);
        run(source);
        Check.finish();
    }
}
