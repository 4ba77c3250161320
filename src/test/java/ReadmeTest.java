import java.io.ByteArrayOutputStream;
import java.io.IOException;
import java.io.PrintStream;
import java.lang.reflect.Field;
import java.lang.reflect.Method;
import java.lang.reflect.Modifier;
import java.net.URL;
import java.net.URLClassLoader;
import java.nio.file.Files;
import java.nio.file.Path;
import javax.tools.ToolProvider;

/** README.md tells the use of the class as it is: its example runs, and it names the whole face. */
public final class ReadmeTest {
    private static final Check check = new Check();

    public static void main(String[] args) throws IOException, ReflectiveOperationException {
        String readme = Files.readString(Path.of("README.md"));
        exampleRuns(readme);
        namesTheFace(readme);
        check.end("ReadmeTest");
    }

    private static void exampleRuns(String readme) throws IOException, ReflectiveOperationException {
        String program = blockBehind(readme, "```java\n");
        String printed = blockBehind(readme, "It prints:\n\n```\n");
        Path folder = Files.createTempDirectory("readme");
        Path source = Files.writeString(folder.resolve("Example.java"), program);
        int exit = ToolProvider.getSystemJavaCompiler().run(null, null, null,
                "-cp", System.getProperty("java.class.path"), "-d", folder.toString(), source.toString());
        check.equal("exit code of javac", 0, exit);
        if (exit == 0) {
            check.equal("what the example prints", printed, printedBy(folder));
        }
        for (String name : new String[] {"Example.java", "Example.class", ""}) {
            Files.deleteIfExists(folder.resolve(name));
        }
    }

    private static String blockBehind(String text, String start) {
        int from = text.indexOf(start);
        check.equal("there is a block behind " + start, 1, from >= 0 ? 1 : 0);
        int to = text.indexOf("```\n", from + start.length());
        return from < 0 || to < 0 ? "" : text.substring(from + start.length(), to);
    }

    private static String printedBy(Path folder) throws IOException, ReflectiveOperationException {
        ByteArrayOutputStream bytes = new ByteArrayOutputStream();
        PrintStream before = System.out;
        System.setOut(new PrintStream(bytes, true));
        try (URLClassLoader loader = new URLClassLoader(new URL[] {folder.toUri().toURL()})) {
            Method main = loader.loadClass("Example").getMethod("main", String[].class);
            main.invoke(null, (Object) new String[0]);
        } finally {
            System.setOut(before);
        }
        return bytes.toString().replace(System.lineSeparator(), "\n");
    }

    private static void namesTheFace(String readme) {
        String table = readme.substring(Math.max(0, readme.indexOf("| call |")));
        for (Method method : MessageCentre.class.getDeclaredMethods()) {
            if (Modifier.isPublic(method.getModifiers())) {
                check.equal("names " + method.getName(), 1, table.contains("`" + method.getName() + "(") ? 1 : 0);
            }
        }
        for (Field constant : MessageCentre.class.getFields()) {
            check.equal("names " + constant.getName(), 1, table.contains("`" + constant.getName() + "`") ? 1 : 0);
        }
    }
}
