import java.io.ByteArrayOutputStream;
import java.io.PrintStream;
import java.lang.reflect.Method;
import java.lang.reflect.Modifier;
import java.net.URL;
import java.net.URLClassLoader;
import java.nio.charset.StandardCharsets;
import java.nio.file.Files;
import java.nio.file.Path;

/** What README.md shows is what the program does. */
public final class ReadmeTest {
    public static void main(String[] args) throws Exception {
        String readme = Files.readString(Path.of("README.md"));
        example(block(readme, "java"), block(readme, "text"));
        calls(readme);
        tests(readme);
        Checks.close("ReadmeTest");
    }

    /** The first block of README.md that is marked so, without its marks. */
    private static String block(String readme, String mark) {
        String open = "```" + mark + "\n";
        int from = readme.indexOf(open);
        int to = from < 0 ? -1 : readme.indexOf("```", from + open.length());
        Checks.due("README.md has a block of " + mark, to >= 0, true);
        return to < 0 ? "" : readme.substring(from + open.length(), to);
    }

    private static void example(String source, String wanted) throws Exception {
        Path folder = Files.createTempDirectory("readme");
        Path file = folder.resolve("Example.java");
        Path compiled = folder.resolve("Example.class");
        try {
            Files.writeString(file, source);
            String classes = System.getProperty("java.class.path");
            int code = new ProcessBuilder("javac", "-cp", classes, "-d", folder.toString(), file.toString())
                .inheritIO().start().waitFor();
            Checks.due("the example's compiler", code, 0);
            if (code == 0) {
                dueLines(printed(folder), wanted);
            }
        } finally {
            Files.deleteIfExists(compiled);
            Files.deleteIfExists(file);
            Files.deleteIfExists(folder);
        }
    }

    private static String printed(Path folder) throws Exception {
        ByteArrayOutputStream bytes = new ByteArrayOutputStream();
        PrintStream screen = System.out;
        try (URLClassLoader loader = new URLClassLoader(new URL[] {folder.toUri().toURL()});
                PrintStream catcher = new PrintStream(bytes, true, StandardCharsets.UTF_8)) {
            System.setOut(catcher);
            loader.loadClass("Example").getMethod("main", String[].class).invoke(null, (Object) new String[0]);
        } finally {
            System.setOut(screen);
        }
        return bytes.toString(StandardCharsets.UTF_8);
    }

    private static void dueLines(String got, String wanted) {
        String[] gotLines = got.split("\\R");
        String[] wantedLines = wanted.split("\\R");
        Checks.due("lines of the example", gotLines.length, wantedLines.length);
        for (int i = 0; i < Math.min(gotLines.length, wantedLines.length); i++) {
            String what = "the example's line <" + gotLines[i] + "> is <" + wantedLines[i] + ">";
            Checks.due(what, gotLines[i].equals(wantedLines[i]), true);
        }
    }

    private static void calls(String readme) {
        for (Method m : QuizLeague.class.getDeclaredMethods()) {
            if (Modifier.isPublic(m.getModifiers())) {
                boolean hasRow = readme.lines().anyMatch(l -> l.startsWith("| ") && l.contains("`" + m.getName() + "("));
                Checks.due("README.md has a row for " + m.getName(), hasRow, true);
            }
        }
    }

    private static void tests(String readme) throws Exception {
        Checks.due("README.md tells .ci/run", readme.contains("\n.ci/run\n"), true);
        try (var files = Files.list(Path.of("src/test/java"))) {
            files.map(f -> f.getFileName().toString().replace(".java", ""))
                .forEach(name -> Checks.due("README.md tells of " + name, readme.contains("`" + name + "`"), true));
        }
    }
}
