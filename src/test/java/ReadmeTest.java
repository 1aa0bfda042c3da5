import java.io.ByteArrayOutputStream;
import java.io.IOException;
import java.io.PrintStream;
import java.lang.reflect.Method;
import java.lang.reflect.Modifier;
import java.net.URL;
import java.net.URLClassLoader;
import java.nio.file.Files;
import java.nio.file.Path;
import java.util.Set;
import java.util.TreeSet;
import java.util.regex.Matcher;
import java.util.regex.Pattern;
import javax.tools.ToolProvider;

/** README.md tells every method of the face, and its example prints what stands below it. */
public final class ReadmeTest {
    public static void main(String[] args) throws Exception {
        String readme = Files.readString(Path.of("README.md"));
        everyMethodIsTold(readme);
        everyTestIsTold(readme);
        exampleWorks(readme);
        Check.end();
    }

    private static void everyMethodIsTold(String readme) {
        Set<String> told = new TreeSet<>();
        Matcher call = Pattern.compile("\\| `(\\w+ \\w+)\\(([^)]*)\\)` \\|").matcher(readme);
        while (call.find()) {
            told.add(call.group(1) + "(" + call.group(2).replaceAll("(\\w+) \\w+", "$1") + ")");
        }
        Set<String> face = new TreeSet<>();
        for (Method method : ValueOrder.class.getDeclaredMethods()) {
            if (Modifier.isPublic(method.getModifiers())) {
                face.add(shown(method));
            }
        }
        Check.due("methods told " + told, told.equals(face), true);
    }

    private static String shown(Method method) {
        StringBuilder made = new StringBuilder(method.getReturnType().getName()).append(' ').append(method.getName());
        String between = "(";
        for (Class<?> type : method.getParameterTypes()) {
            made.append(between).append(type.getName());
            between = ", ";
        }
        return made.append(')').toString();
    }

    private static void everyTestIsTold(String readme) throws IOException {
        try (var files = Files.newDirectoryStream(Path.of("src/test/java"), "*Test.java")) {
            for (Path file : files) {
                String name = file.getFileName().toString().replace(".java", "");
                Check.due("the readme tells " + name, readme.contains("`" + name + "`"), true);
            }
        }
    }

    private static void exampleWorks(String readme) throws Exception {
        String printed = printedBy(block(readme, "java"));
        Check.due("the example printed\n" + printed, printed.equals(block(readme, "text")), true);
    }

    private static String block(String readme, String language) {
        Matcher fenced = Pattern.compile("(?s)\n```" + language + "\n(.*?)```\n").matcher(readme);
        Check.due("a block of " + language, fenced.find(), true);
        String found = fenced.group(1);
        Check.due("another block of " + language, fenced.find(), false);
        return found;
    }

    private static String printedBy(String source) throws Exception {
        Path out = Files.createTempDirectory("readme");
        Path file = Files.writeString(out.resolve("Example.java"), source);
        String classes = System.getProperty("java.class.path");
        int answer = ToolProvider.getSystemJavaCompiler().run(null, null, null,
                "-Xlint:all", "-Werror", "--release", "17", "-cp", classes, "-d", out.toString(), file.toString());
        Check.due("compiling the example", answer, 0);
        ByteArrayOutputStream printed = new ByteArrayOutputStream();
        PrintStream before = System.out;
        try (URLClassLoader loader = new URLClassLoader(new URL[] {out.toUri().toURL()})) {
            Method main = loader.loadClass("Example").getMethod("main", String[].class);
            System.setOut(new PrintStream(printed, true));
            main.invoke(null, (Object) new String[0]);
        } finally {
            System.setOut(before);
            Files.deleteIfExists(out.resolve("Example.class"));
            Files.deleteIfExists(file);
            Files.deleteIfExists(out);
        }
        return printed.toString().replace("\r\n", "\n");
    }
}
