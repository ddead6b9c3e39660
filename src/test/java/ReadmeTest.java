import java.io.IOException;
import java.lang.reflect.Method;
import java.lang.reflect.Modifier;
import java.net.URL;
import java.net.URLClassLoader;
import java.nio.file.Files;
import java.nio.file.Path;
import java.util.ArrayList;
import java.util.Comparator;
import java.util.List;
import java.util.regex.Matcher;
import java.util.regex.Pattern;
import java.util.stream.Stream;
import javax.tools.ToolProvider;

/**
 * What README.md shows is so: its Java is compiled and run as it stands there, and each call must answer
 * what is said behind it.
 */
public final class ReadmeTest {
    private static final Pattern BLOCK = Pattern.compile("```java\n(.*?)```", Pattern.DOTALL);
    private static final Pattern CALL = Pattern.compile("(.*\\)); *// (throws \\w+|[^ :]+)(:.*)?");
    private static final Pattern OF_HOUSE = Pattern.compile("\\bhouse\\.(\\w+)\\(");
    private static final int MOST_CALLS = 512;

    private final List<String> calls = new ArrayList<>();
    private final List<String> said = new ArrayList<>();
    private final StringBuilder body = new StringBuilder();
    private final StringBuilder helpers = new StringBuilder();

    public static void main(String[] args) throws Exception {
        String readme = Files.readString(Path.of("README.md"));
        ReadmeTest test = new ReadmeTest();
        Matcher blocks = BLOCK.matcher(readme);
        while (blocks.find()) {
            test.takeBlock(blocks.group(1));
        }
        test.compareAnswers();
        test.lookForFace();
        lookForTests(readme);
        Check.finish();
    }

    private void takeBlock(String block) {
        if (block.startsWith("static ")) {
            helpers.append(block);
            return;
        }
        for (String line : block.split("\n")) {
            takeLine(line);
        }
    }

    private void takeLine(String line) {
        Matcher call = CALL.matcher(line);
        if (!call.matches()) {
            body.append(line).append('\n');
            return;
        }
        calls.add(call.group(1));
        said.add(call.group(2).replace("NONE", "" + Check.NONE).replace("LOST", "" + Check.LOST));
        body.append("try { told.add(\"\" + ").append(call.group(1)).append("); } catch (RuntimeException e) {")
                .append(" told.add(\"throws \" + e.getClass().getSimpleName()); }\n");
    }

    private void compareAnswers() throws Exception {
        Path folder = Files.createTempDirectory("readme");
        try {
            List<String> told = run(folder);
            Check.due("README.md: calls that answered", calls.size(), told.size());
            for (int i = 0; i < told.size(); i++) {
                Check.alike("README.md shows " + calls.get(i), told.get(i), said.get(i));
            }
            Check.due("README.md keeps to " + MOST_CALLS + " calls", 1, calls.size() <= MOST_CALLS ? 1 : 0);
        } finally {
            remove(folder);
        }
    }

    /** The answers of all calls, in their order. */
    private List<String> run(Path folder) throws Exception {
        Path source = folder.resolve("Shown.java");
        Files.writeString(source, "public final class Shown {\n"
                + "public static void run(java.util.List<String> told) {\n" + body + "}\n" + helpers + "}\n");
        String path = System.getProperty("java.class.path");
        int wrong = ToolProvider.getSystemJavaCompiler().run(null, null, null, "-cp", path, "-d", folder.toString(),
                source.toString());
        Check.due("README.md: wrong Java", 0, wrong);
        List<String> told = new ArrayList<>();
        if (wrong == 0) {
            try (URLClassLoader loader = new URLClassLoader(new URL[] {folder.toUri().toURL()})) {
                loader.loadClass("Shown").getMethod("run", List.class).invoke(null, told);
            }
        }
        return told;
    }

    private static void remove(Path folder) throws IOException {
        try (Stream<Path> paths = Files.walk(folder)) {
            for (Path path : paths.sorted(Comparator.reverseOrder()).toList()) {
                Files.delete(path);
            }
        }
    }

    /** Every call of the face is shown with an answer, those that throw too, and no other call. */
    private void lookForFace() {
        List<String> shown = new ArrayList<>();
        Matcher names = OF_HOUSE.matcher(String.join("\n", calls));
        while (names.find()) {
            shown.add(names.group(1));
        }
        for (Method method : NeedleHouse.class.getDeclaredMethods()) {
            if (Modifier.isPublic(method.getModifiers())) {
                Check.due("README.md shows " + method.getName(), 1, shown.contains(method.getName()) ? 1 : 0);
            }
        }
        Check.due("README.md shows a call that throws", 1, String.join(" ", said).contains("throws") ? 1 : 0);
    }

    private static void lookForTests(String readme) throws IOException {
        try (Stream<Path> paths = Files.list(Path.of("src/test/java"))) {
            for (Path path : paths.sorted().toList()) {
                String name = path.getFileName().toString().replace(".java", "");
                if (name.endsWith("Test")) {
                    Check.due("README.md tells of " + name, 1, readme.contains("`" + name + "`") ? 1 : 0);
                }
            }
        }
    }
}
