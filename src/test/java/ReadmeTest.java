import java.io.File;
import java.io.IOException;
import java.lang.reflect.InvocationTargetException;
import java.lang.reflect.Method;
import java.lang.reflect.Modifier;
import java.net.URL;
import java.net.URLClassLoader;
import java.nio.file.Files;
import java.nio.file.Path;
import java.util.Set;
import java.util.TreeSet;
import java.util.regex.Matcher;
import java.util.regex.Pattern;
import javax.tools.ToolProvider;

/** README.md: its runs can be compiled and answer what stands beside them, and it names every method of the class. */
public final class ReadmeTest {
    private static final String EXAMPLE = "ReadmeExample";

    private ReadmeTest() {
    }

    public static void main(String[] args) throws IOException, ReflectiveOperationException {
        String readme = Files.readString(Path.of("README.md"));
        methods(readme);
        runs(readme);
        Check.finish();
    }

    private static void methods(String readme) {
        Set<String> named = new TreeSet<>();
        Matcher row = Pattern.compile("(?m)^\\| [^|]* \\|([^|]*)\\|$").matcher(readme);
        while (row.find()) {
            Matcher name = Pattern.compile("`(\\w+)`").matcher(row.group(1));
            while (name.find()) {
                Check.holds("README.md names " + name.group(1) + " once", named.add(name.group(1)));
            }
        }
        Set<String> methods = new TreeSet<>();
        for (Method method : SpriteAtlas.class.getDeclaredMethods()) {
            if (Modifier.isPublic(method.getModifiers())) {
                methods.add(method.getName());
            }
        }
        Check.due("the methods in README.md", named.toString(), methods.toString());
    }

    /** A line "int name = ..; // number" promises a number. */
    private static void runs(String readme) throws IOException, ReflectiveOperationException {
        StringBuilder code = new StringBuilder("public class " + EXAMPLE + " { public static String run() {\n"
                + "StringBuilder answers = new StringBuilder();\n");
        StringBuilder due = new StringBuilder();
        Matcher block = Pattern.compile("(?s)```java\n(.*?)```").matcher(readme);
        Pattern answer = Pattern.compile("int (\\w+) = .*; +// (-?\\d+)");
        while (block.find()) {
            for (String line : block.group(1).split("\n")) {
                code.append(line).append('\n');
                Matcher m = answer.matcher(line);
                if (m.matches()) {
                    code.append("answers.append(\"" + m.group(1) + "=\").append(" + m.group(1) + ").append(' ');\n");
                    due.append(m.group(1)).append('=').append(m.group(2)).append(' ');
                }
            }
        }
        code.append("return answers.toString(); } }\n");
        Check.holds("README.md has runs with answers", due.length() > 0);
        Check.due("the runs in README.md", answersOf(code.toString()), due.toString());
    }

    private static String answersOf(String code) throws IOException, ReflectiveOperationException {
        File folder = Files.createTempDirectory("readme").toFile();
        File source = new File(folder, EXAMPLE + ".java");
        File program = new File(folder, EXAMPLE + ".class");
        Files.writeString(source.toPath(), code);
        int wrong = ToolProvider.getSystemJavaCompiler().run(null, null, null, "-d", folder.getPath(), "-cp",
                System.getProperty("java.class.path"), source.getPath());
        Check.due("README.md's runs can be compiled", wrong, 0);
        String answers = wrong == 0 ? call(folder) : "";
        Files.deleteIfExists(source.toPath());
        Files.deleteIfExists(program.toPath());
        Files.deleteIfExists(folder.toPath());
        return answers;
    }

    private static String call(File folder) throws IOException, ReflectiveOperationException {
        try (URLClassLoader loader = new URLClassLoader(new URL[] {folder.toURI().toURL()})) {
            return (String) loader.loadClass(EXAMPLE).getMethod("run").invoke(null);
        } catch (InvocationTargetException e) {
            return "thrown: " + e.getCause();
        }
    }
}
