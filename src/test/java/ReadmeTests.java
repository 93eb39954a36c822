import java.io.IOException;
import java.lang.reflect.Method;
import java.lang.reflect.Modifier;
import java.net.URL;
import java.net.URLClassLoader;
import java.nio.charset.StandardCharsets;
import java.nio.file.DirectoryStream;
import java.nio.file.Files;
import java.nio.file.Path;
import java.util.ArrayList;
import java.util.List;
import java.util.Set;
import java.util.TreeSet;
import java.util.regex.Matcher;
import java.util.regex.Pattern;
import javax.tools.ToolProvider;

/** README.md: its example answers as it says, neither a call nor a test is missing, and .ci/run does what it says. */
public final class ReadmeTests extends Checks {
    private static final Pattern CODE = Pattern.compile("```java\n(.*?)```", Pattern.DOTALL);
    private static final Pattern ANSWER = Pattern.compile("\\s*// (-?\\w+):? ?.*");

    private ReadmeTests() {
    }

    public static void main(String[] args) throws Exception {
        Path home = Path.of(System.getProperty("villageboard.home", "."));
        String readme = Files.readString(home.resolve("README.md"), StandardCharsets.UTF_8);
        label("README.md: ");
        example(readme);
        calls(readme);
        tests(readme, home);
        finish("ReadmeTests");
    }

    // ---- the example

    /** The example calls this once it has been compiled. */
    public static void answers(String call, Object got, String due) {
        is(call, got, due);
    }

    private static void example(String readme) throws Exception {
        List<String> blocks = new ArrayList<>();
        for (Matcher m = CODE.matcher(readme); m.find();) {
            blocks.add(m.group(1));
        }
        is("blocks of code", blocks.size(), 2);
        String body = withAnswers(blocks.get(1));
        is("answers that are looked at", body.split("ReadmeTests.answers").length,
                blocks.get(1).split(" // ").length);
        compileAndRun("public final class ReadmeExample {\n" + blocks.get(0)
                + "public static void main(String[] args) {\n" + body + "}\n}\n");
    }

    /** Each statement that has its answer behind it becomes one that looks at it. */
    private static String withAnswers(String block) {
        StringBuilder body = new StringBuilder();
        int start = 0;
        boolean text = false;
        for (int i = 0; i < block.length(); i++) {
            text ^= block.charAt(i) == '"';
            if (block.charAt(i) == ';' && !text) {
                String call = block.substring(start, i).strip();
                int end = block.indexOf('\n', i);
                Matcher answer = ANSWER.matcher(block.substring(i + 1, end));
                body.append(answer.matches()
                        ? "ReadmeTests.answers(\"" + call.replaceAll("\\s+", " ").replace("\"", "'") + "\", "
                                + call + ", \"" + answer.group(1) + "\");\n"
                        : call + ";\n");
                i = end;
                start = end;
            }
        }
        return body.toString();
    }

    private static void compileAndRun(String program) throws Exception {
        Path folder = Files.createTempDirectory("readme");
        Path file = folder.resolve("ReadmeExample.java");
        Path made = folder.resolve("ReadmeExample.class");
        try {
            Files.writeString(file, program);
            is("compiling the example", ToolProvider.getSystemJavaCompiler().run(null, null, null,
                    "-d", folder.toString(), "-cp", System.getProperty("java.class.path"), file.toString()), 0);
            try (URLClassLoader loader = new URLClassLoader(new URL[] {folder.toUri().toURL()})) {
                loader.loadClass("ReadmeExample").getMethod("main", String[].class)
                        .invoke(null, (Object) new String[0]);
            }
        } finally {
            Files.deleteIfExists(file);
            Files.deleteIfExists(made);
            Files.delete(folder);
        }
    }

    // ---- what it names

    private static void calls(String readme) {
        for (Method m : VillageBoard.class.getDeclaredMethods()) {
            if (Modifier.isPublic(m.getModifiers())) {
                String row = "\\|.*`" + m.getName() + "\\(" + "\\w+, ".repeat(Math.max(0, m.getParameterCount() - 1))
                        + (m.getParameterCount() > 0 ? "\\w+" : "") + "\\)`.*\\|";
                is("rows of " + m.getName(), Pattern.compile(row).matcher(readme).results().count(), 1);
            }
        }
    }

    private static void tests(String readme, Path home) throws IOException {
        Set<String> files = new TreeSet<>();
        Set<String> run = new TreeSet<>();
        try (DirectoryStream<Path> all = Files.newDirectoryStream(home.resolve("src/test/java"), "*.java")) {
            for (Path path : all) {
                String name = path.getFileName().toString().replace(".java", "");
                files.add(name);
                if (Files.readString(path).contains("static void main(String")) {
                    run.add(name);
                }
            }
        }
        Set<String> named = new TreeSet<>();
        for (Matcher m = Pattern.compile("(?m)^- `(\\w+)`:").matcher(readme); m.find();) {
            named.add(m.group(1));
        }
        is("the tests that it names", named, run);
        for (Matcher m = Pattern.compile("`(\\w+(?:Boundaries|Model))`").matcher(readme); m.find();) {
            is("whether there is " + m.group(1), files.contains(m.group(1)), true);
        }
        Path script = home.resolve(".ci/run");
        is("whether .ci/run can be run", Files.isExecutable(script), true);
        String lines = Files.readString(script);
        for (String told : List.of("src/test/java", "../shared", "FAILED", "javac", "java ")) {
            is("whether it and .ci/run tell of " + told, readme.contains(told) && lines.contains(told), true);
        }
    }
}
