import java.io.IOException;
import java.lang.reflect.Method;
import java.lang.reflect.Modifier;
import java.net.URL;
import java.net.URLClassLoader;
import java.nio.file.Files;
import java.nio.file.Path;
import java.util.Comparator;
import java.util.List;
import java.util.regex.Matcher;
import java.util.regex.Pattern;
import java.util.stream.Collectors;
import java.util.stream.Stream;
import javax.tools.ToolProvider;
import support.Answers;

/** README.md's example answers what its comments say; its list of calls and of tests is whole. */
public final class ReadmeTest {
    private static final Pattern EXAMPLE = Pattern.compile("```java\n(.*?)```", Pattern.DOTALL);
    // "int steps = leaves.proof(0, 1, 0); // 1: why": the name, and the answer that is due.
    private static final Pattern ANSWER =
            Pattern.compile("^(?:int|boolean) (\\w+) = .*; *// (-?\\d+|true|false)\\b.*$", Pattern.MULTILINE);

    public static void main(String[] args) throws Exception {
        Path root = Path.of(System.getProperty("project.root", "."));
        String readme = Files.readString(root.resolve("README.md"));
        Answers.under("README.md");
        namesEachCall(readme);
        namesEachTest(readme, root.resolve("src/test/java"));
        exampleHolds(readme);
        Answers.end("README.md is as due");
    }

    private static void namesEachCall(String readme) {
        for (Method method : ReleaseLeaves.class.getDeclaredMethods()) {
            boolean named = readme.contains("| `" + method.getName() + "(");
            if (Modifier.isPublic(method.getModifiers()) && !named) {
                Answers.complain("no row for " + method.getName());
            }
            if (Modifier.isPublic(method.getModifiers()) && !readme.contains("leaves." + method.getName() + "(")) {
                Answers.complain("the example does not use " + method.getName());
            }
        }
    }

    private static void namesEachTest(String readme, Path folder) throws IOException {
        try (Stream<Path> files = Files.list(folder)) {
            for (Path file : files.collect(Collectors.toList())) {
                String name = file.getFileName().toString().replace(".java", "");
                if (!readme.contains("`" + name + "`")) {
                    Answers.complain("no word on " + name);
                }
            }
        }
    }

    private static void exampleHolds(String readme) throws Exception {
        Matcher example = EXAMPLE.matcher(readme);
        if (!example.find()) {
            Answers.complain("no example");
            return;
        }
        Matcher answers = ANSWER.matcher(example.group(1));
        String checked = answers.replaceAll("$0\nsupport.Answers.is(\"$1\", $1, $2);");
        Path folder = Files.createTempDirectory("readme");
        try {
            runIn(folder, checked);
        } finally {
            remove(folder);
        }
    }

    private static void runIn(Path folder, String statements) throws Exception {
        Path source = folder.resolve("ReadmeExample.java");
        Files.writeString(source, "public final class ReadmeExample {\n"
                + "public static void run() {\n" + statements + "}\n}\n");
        int refused = ToolProvider.getSystemJavaCompiler().run(null, null, null,
                "-cp", System.getProperty("java.class.path"), "-d", folder.toString(), source.toString());
        if (refused != 0) {
            Answers.complain("the example does not compile");
            return;
        }
        try (URLClassLoader loader = new URLClassLoader(new URL[] {folder.toUri().toURL()})) {
            loader.loadClass("ReadmeExample").getMethod("run").invoke(null);
        }
    }

    private static void remove(Path folder) throws IOException {
        List<Path> inside;
        try (Stream<Path> walk = Files.walk(folder)) {
            inside = walk.sorted(Comparator.reverseOrder()).collect(Collectors.toList());
        }
        for (Path path : inside) {
            Files.delete(path);
        }
    }
}
