import java.io.IOException;
import java.net.URL;
import java.net.URLClassLoader;
import java.nio.file.Files;
import java.nio.file.Path;
import java.util.ArrayList;
import java.util.List;
import java.util.regex.Matcher;
import java.util.regex.Pattern;
import javax.tools.JavaCompiler;
import javax.tools.ToolProvider;

/** Compiles and runs the examples of README.md: each call must answer what is told behind it. */
public final class ReadmeTest {
    private static final Pattern BLOCK = Pattern.compile("```java\n(.*?)```", Pattern.DOTALL);
    private static final Pattern CALL = Pattern.compile("(.*\\));\\s*// (throws \\w+|-?\\d+\\.\\d+|-?\\d+|true|false)\\b.*");
    private static final int FEWEST_CALLS = 25;

    private final List<String> calls = new ArrayList<>();
    private final List<String> due = new ArrayList<>();

    public static void main(String[] args) throws Exception {
        Check.section("README.md");
        new ReadmeTest().run(Files.readString(Path.of("README.md")));
        Check.end();
    }

    private void run(String page) throws Exception {
        Path folder = Files.createTempDirectory("readme");
        try {
            compare(answers(folder, source(page)));
        } finally {
            remove(folder);
        }
    }

    private void compare(List<?> answers) {
        Check.same("enough calls", calls.size() >= FEWEST_CALLS, true);
        Check.same("answers", answers.size(), calls.size());
        for (int i = 0; i < answers.size() && i < calls.size(); i++) {
            Check.same(calls.get(i), String.valueOf(answers.get(i)), due.get(i));
        }
    }

    /** Blocks that start with static are helpers, the others are one run from the top of the page to its end. */
    private String source(String page) {
        StringBuilder helpers = new StringBuilder();
        StringBuilder run = new StringBuilder();
        Matcher block = BLOCK.matcher(page);
        while (block.find()) {
            if (block.group(1).startsWith("static ")) {
                helpers.append(block.group(1));
            } else {
                block.group(1).lines().forEach(line -> run.append(asked(line)));
            }
        }
        return "public final class Readme {\n" + helpers
                + "public static java.util.List<String> answers() {\n"
                + "java.util.List<String> all = new java.util.ArrayList<>();\n" + run + "return all;\n}\n}\n";
    }

    private String asked(String line) {
        Matcher call = CALL.matcher(line);
        if (!call.matches()) {
            return line + "\n";
        }
        calls.add(call.group(1));
        due.add(call.group(2));
        return "try { all.add(String.valueOf(" + call.group(1) + ")); }"
                + " catch (RuntimeException e) { all.add(\"throws \" + e.getClass().getSimpleName()); }\n";
    }

    private static List<?> answers(Path folder, String source) throws Exception {
        Path file = Files.writeString(folder.resolve("Readme.java"), source);
        JavaCompiler compiler = ToolProvider.getSystemJavaCompiler();
        int exit = compiler.run(null, null, null, "--release", "17", "-cp", System.getProperty("java.class.path"),
                "-d", folder.toString(), file.toString());
        Check.same("the examples compile", exit, 0);
        if (exit != 0) {
            return List.of();
        }
        try (URLClassLoader loader = new URLClassLoader(new URL[] {folder.toUri().toURL()})) {
            return (List<?>) loader.loadClass("Readme").getMethod("answers").invoke(null);
        }
    }

    private static void remove(Path folder) throws IOException {
        for (String name : new String[] {"Readme.java", "Readme.class"}) {
            Files.deleteIfExists(folder.resolve(name));
        }
        Files.deleteIfExists(folder);
    }
}
