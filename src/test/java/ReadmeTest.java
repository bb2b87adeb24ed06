import java.io.ByteArrayOutputStream;
import java.io.IOException;
import java.io.PrintStream;
import java.lang.reflect.Field;
import java.lang.reflect.Method;
import java.lang.reflect.Modifier;
import java.net.URL;
import java.net.URLClassLoader;
import java.nio.charset.StandardCharsets;
import java.nio.file.Files;
import java.nio.file.Path;
import javax.tools.ToolProvider;

/** README.md tells no other class than this one: its program is compiled and run, and nothing of the face is missing. */
public final class ReadmeTest {
    public static void main(String[] args) throws IOException, ReflectiveOperationException {
        String readme = Files.readString(Path.of("README.md"));
        Path folder = Files.createTempDirectory("readme");
        Path program = folder.resolve("Survey.java");
        try {
            Files.writeString(program, block(readme, "java"));
            int compiled = ToolProvider.getSystemJavaCompiler().run(null, null, null,
                "-cp", System.getProperty("java.class.path"), "-d", folder.toString(), program.toString());
            Checks.due("compile the program of README.md", compiled, 0);
            if (compiled == 0) {
                Checks.due("the program of README.md", printed(folder), block(readme, "text"));
            }
        } finally {
            Files.deleteIfExists(folder.resolve("Survey.class"));
            Files.deleteIfExists(program);
            Files.deleteIfExists(folder);
        }
        tellsTheFace(readme);
        Checks.end();
    }

    /** What stands in the first block of the kind. */
    private static String block(String readme, String kind) {
        String mark = "```" + kind + "\n";
        int start = readme.indexOf(mark) + mark.length();
        return readme.substring(start, readme.indexOf("```", start));
    }

    private static String printed(Path folder) throws IOException, ReflectiveOperationException {
        ByteArrayOutputStream text = new ByteArrayOutputStream();
        PrintStream out = System.out;
        try (URLClassLoader loader = new URLClassLoader(new URL[] {folder.toUri().toURL()});
                PrintStream caught = new PrintStream(text, true, StandardCharsets.UTF_8)) {
            System.setOut(caught);
            loader.loadClass("Survey").getMethod("main", String[].class).invoke(null, (Object) new String[0]);
        } finally {
            System.setOut(out);
        }
        return text.toString(StandardCharsets.UTF_8).replace("\r\n", "\n");
    }

    private static void tellsTheFace(String readme) {
        String told = readme.substring(readme.indexOf("### The calls"), readme.indexOf("## Tests"));
        for (Method method : AskMachine.class.getDeclaredMethods()) {
            if (Modifier.isPublic(method.getModifiers())) {
                Checks.due(method.getName() + " is told", told.contains("`" + method.getName() + "("), true);
            }
        }
        String all = readme.substring(0, readme.indexOf("## Tests"));
        for (Field field : AskMachine.class.getDeclaredFields()) {
            if (Modifier.isPublic(field.getModifiers())) {
                Checks.due(field.getName() + " is told", all.matches("(?s).*\\b" + field.getName() + "\\b.*"), true);
            }
        }
    }
}
