import java.io.ByteArrayOutputStream;
import java.io.IOException;
import java.io.PrintStream;
import java.lang.reflect.Method;
import java.lang.reflect.Modifier;
import java.net.URL;
import java.net.URLClassLoader;
import java.nio.charset.StandardCharsets;
import java.nio.file.Files;
import java.nio.file.Path;
import java.util.ArrayList;
import java.util.Arrays;
import java.util.Comparator;
import java.util.List;
import java.util.spi.ToolProvider;
import java.util.stream.Stream;

/** README.md: its example prints what stands behind its lines, and every method and test is named in it. */
public final class ReadmeTest {
    private static final Check CHECK = new Check("ReadmeTest");
    private static final String PRINT = "System.out.println(";

    public static void main(String[] args) throws Exception {
        String readme = Files.readString(Path.of("README.md"));
        example(readme);
        names(readme);
        CHECK.end();
    }

    private static void example(String readme) throws Exception {
        int start = readme.indexOf("```java\n");
        int end = readme.indexOf("```", start + 8);
        CHECK.is("there is an example", start >= 0 && end > start, true);
        String example = readme.substring(start + 8, end);
        List<String> due = new ArrayList<>();
        for (String line : example.split("\n")) {
            if (line.strip().startsWith(PRINT)) {
                CHECK.is("a comment behind" + line, line.contains("// "), true);
                due.add(line.substring(line.indexOf("// ") + 3));
            }
        }
        String[] printed = printed(example);
        CHECK.is("lines printed", printed.length, due.size());
        for (int n = 0; n < Math.min(printed.length, due.size()); n++) {
            CHECK.is("line " + (n + 1) + ", \"" + printed[n] + "\", is \"" + due.get(n) + "\"",
                    begins(due.get(n), printed[n]), true);
        }
    }

    private static boolean begins(String due, String printed) {
        return due.equals(printed) || due.startsWith(printed + " ") || due.startsWith(printed + ":");
    }

    private static String[] printed(String example) throws Exception {
        Path work = Files.createTempDirectory("readme");
        PrintStream before = System.out;
        try {
            Path file = work.resolve("Example.java");
            Files.writeString(file, example);
            int code = ToolProvider.findFirst("javac").orElseThrow().run(before, before,
                    "-cp", System.getProperty("java.class.path"), "-d", work.toString(), file.toString());
            CHECK.is("javac of the example", code, 0);
            ByteArrayOutputStream bytes = new ByteArrayOutputStream();
            System.setOut(new PrintStream(bytes, true, StandardCharsets.UTF_8));
            try (URLClassLoader loader = new URLClassLoader(new URL[] {work.toUri().toURL()})) {
                loader.loadClass("Example").getMethod("main", String[].class).invoke(null, (Object) new String[0]);
            }
            return bytes.toString(StandardCharsets.UTF_8).split("\\R");
        } finally {
            System.setOut(before);
            remove(work);
        }
    }

    private static void remove(Path work) throws IOException {
        try (Stream<Path> files = Files.walk(work)) {
            for (Path file : files.sorted(Comparator.reverseOrder()).toList()) {
                Files.delete(file);
            }
        }
    }

    private static void names(String readme) throws IOException {
        for (Method method : ChipNetwork.class.getDeclaredMethods()) {
            if (Modifier.isPublic(method.getModifiers())) {
                CHECK.is("README.md names " + method.getName(), readme.contains("`" + method.getName() + "`"), true);
            }
        }
        try (Stream<Path> files = Files.list(Path.of("src/test/java"))) {
            for (Path file : files.toList()) {
                String name = file.getFileName().toString().replace(".java", "");
                if (name.endsWith("Test")) {
                    CHECK.is("README.md names " + name, readme.contains("`" + name + "`"), true);
                }
            }
        }
        for (String path : Arrays.asList(".ci/run", "src/main/java/ChipNetwork.java", "../shared/DOC.md",
                "../shared/LANGUAGE.md", "../shared/tests")) {
            CHECK.is("README.md names " + path, readme.contains(path), true);
            CHECK.is(path + " is there", Files.exists(Path.of(path)), true);
        }
    }
}
