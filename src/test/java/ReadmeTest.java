import java.io.ByteArrayOutputStream;
import java.io.IOException;
import java.io.PrintStream;
import java.lang.reflect.Method;
import java.lang.reflect.Modifier;
import java.net.URL;
import java.net.URLClassLoader;
import java.nio.file.Files;
import java.nio.file.Path;
import javax.tools.ToolProvider;

/** README.md: its program prints what the page says, and the page tells of every call, text and test. */
public final class ReadmeTest {
    private static final Check c = new Check();

    public static void main(String[] args) throws Exception {
        String page = Files.readString(Path.of("README.md"));
        c.dueText("the program of README.md", printedBy(block(page, "java")), block(page, "text"));
        tellsOfCalls(page);
        tellsOfTexts(page);
        tellsOfTests(page);
        c.close("ReadmeTest");
    }

    /** What stands in the first block of this kind. */
    private static String block(String page, String kind) {
        String opening = "```" + kind + "\n";
        int from = page.indexOf(opening);
        int to = from < 0 ? -1 : page.indexOf("```\n", from + opening.length());
        if (to < 0) {
            throw new IllegalArgumentException("README.md has no block of " + kind);
        }
        return page.substring(from + opening.length(), to);
    }

    private static String printedBy(String program) throws Exception {
        Path folder = Files.createTempDirectory("readme");
        Path source = folder.resolve("Example.java");
        try {
            Files.writeString(source, program);
            int failed = ToolProvider.getSystemJavaCompiler().run(null, null, null, "-encoding", "UTF-8",
                    "-cp", System.getProperty("java.class.path"), "-d", folder.toString(), source.toString());
            c.due("javac of the program of README.md", failed, 0);
            return failed == 0 ? printedIn(folder) : "";
        } finally {
            Files.deleteIfExists(source);
            Files.deleteIfExists(folder.resolve("Example.class"));
            Files.deleteIfExists(folder);
        }
    }

    private static String printedIn(Path folder) throws Exception {
        PrintStream out = System.out;
        ByteArrayOutputStream printed = new ByteArrayOutputStream();
        try (URLClassLoader loader = new URLClassLoader(new URL[] {folder.toUri().toURL()})) {
            System.setOut(new PrintStream(printed, true));
            loader.loadClass("Example").getMethod("main", String[].class).invoke(null, (Object) new String[0]);
        } finally {
            System.setOut(out);
        }
        return printed.toString().replace("\r\n", "\n");
    }

    private static void tellsOfCalls(String page) {
        String table = page.substring(page.indexOf("## What calls answer"));
        for (Method method : DrownedRooms.class.getDeclaredMethods()) {
            if (Modifier.isPublic(method.getModifiers())) {
                int parameters = method.getParameterCount();
                String names = parameters == 0 ? "" : "\\w+" + ", \\w+".repeat(parameters - 1);
                String call = "(?s).*\\| [^|]*`" + method.getName() + "\\(" + names + "\\)`.*";
                c.due("README.md tells of " + method.getName(), table.matches(call), true);
            }
        }
    }

    private static void tellsOfTexts(String page) {
        String part = page.substring(page.indexOf("## What it takes on the tape"), page.indexOf("## What calls answer"));
        for (String word : Model.KEYWORDS) {
            c.due("README.md tells of the word " + word, part.matches("(?s).*\\b" + word + "\\b.*"), true);
        }
    }

    private static void tellsOfTests(String page) throws IOException {
        String part = page.substring(page.indexOf("## Tests"));
        c.due("README.md tells by which command tests are run", part.contains("\n.ci/run\n"), true);
        try (var files = Files.list(Path.of("src/test/java"))) {
            files.map(file -> file.getFileName().toString()).filter(name -> name.endsWith("Test.java")).forEach(name ->
                    c.due("README.md tells of " + name, part.contains("`" + name.replace(".java", "") + "`"), true));
        }
    }
}
