import java.io.IOException;
import java.lang.reflect.Method;
import java.lang.reflect.Modifier;
import java.net.URL;
import java.net.URLClassLoader;
import java.nio.file.DirectoryStream;
import java.nio.file.Files;
import java.nio.file.Path;
import java.util.ArrayList;
import java.util.List;
import java.util.regex.Matcher;
import java.util.regex.Pattern;
import javax.tools.ToolProvider;

/** README.md: its example answers what stands beside it, and no call of the face and no test is missing there. */
public final class ReadmeTest {
    private static final Check CHECK = new Check();
    private static final Pattern ASKED = Pattern.compile("(x\\.\\w+\\(.*\\));(?: +// ([^ :]+): .+)?");

    public static void main(String[] args) throws IOException, ReflectiveOperationException {
        String page = Files.readString(Path.of("README.md"));
        List<String> blocks = blocks(page);
        CHECK.due("blocks of code: a helper and an example", blocks.size(), 2);
        if (blocks.size() == 2) {
            example(blocks.get(0), blocks.get(1));
        }
        names(page);
        CHECK.finish("ReadmeTest");
    }

    private static List<String> blocks(String page) {
        List<String> all = new ArrayList<>();
        Matcher block = Pattern.compile("(?s)```java\n(.*?)```").matcher(page);
        while (block.find()) {
            all.add(block.group(1));
        }
        return all;
    }

    /** Every line that asks x something must tell its answer behind it. */
    private static void example(String helper, String code) throws IOException, ReflectiveOperationException {
        StringBuilder body = new StringBuilder();
        List<String> calls = new ArrayList<>();
        List<String> due = new ArrayList<>();
        for (String line : code.split("\n")) {
            Matcher asked = ASKED.matcher(line);
            if (asked.matches()) {
                body.append("got.add(String.valueOf(").append(asked.group(1)).append("));\n");
                calls.add("README: " + asked.group(1));
                due.add(String.valueOf(asked.group(2)));
            } else {
                CHECK.due("a line of the example that cannot be read: " + line, line.startsWith("x."), false);
                body.append(line).append('\n');
            }
        }
        List<?> got = run(helper, body.toString());
        CHECK.due("answers of the example", got.size(), due.size());
        for (int i = 0; i < got.size() && i < due.size(); i++) {
            CHECK.due(calls.get(i), String.valueOf(got.get(i)), due.get(i));
        }
    }

    private static List<?> run(String helper, String body) throws IOException, ReflectiveOperationException {
        Path built = Files.createTempDirectory("readme");
        Path source = built.resolve("ReadmeExample.java");
        Path made = built.resolve("ReadmeExample.class");
        Files.writeString(source, "public class ReadmeExample {\n" + helper
            + "public static java.util.List<String> run() {\njava.util.List<String> got = new java.util.ArrayList<>();\n"
            + body + "return got;\n}\n}\n");
        String classes = System.getProperty("java.class.path");
        int ended = ToolProvider.getSystemJavaCompiler().run(null, null, null,
            "-cp", classes, "-d", built.toString(), source.toString());
        CHECK.due("javac of the example", ended, 0);
        try (URLClassLoader loader = new URLClassLoader(new URL[] {built.toUri().toURL()})) {
            return ended != 0 ? List.of() : (List<?>) loader.loadClass("ReadmeExample").getMethod("run").invoke(null);
        } finally {
            Files.deleteIfExists(source);
            Files.deleteIfExists(made);
            Files.deleteIfExists(built);
        }
    }

    private static void names(String page) throws IOException {
        for (Method method : BeatenAfternoon.class.getDeclaredMethods()) {
            if (Modifier.isPublic(method.getModifiers())) {
                CHECK.due("README names " + method.getName(), page.contains("`" + method.getName() + "`"), true);
            }
        }
        try (DirectoryStream<Path> tests = Files.newDirectoryStream(Path.of("src/test/java"), "*Test.java")) {
            for (Path test : tests) {
                String name = test.getFileName().toString().replace(".java", "");
                CHECK.due("README names " + name, page.contains("| `" + name + "` |"), true);
            }
        }
    }
}
