import java.io.IOException;
import java.lang.reflect.Constructor;
import java.lang.reflect.Field;
import java.lang.reflect.Method;
import java.lang.reflect.Modifier;
import java.nio.file.Files;
import java.nio.file.Path;
import java.util.Arrays;
import java.util.Set;
import java.util.TreeSet;
import java.util.regex.Matcher;
import java.util.regex.Pattern;

/** The face, and the rules of LANGUAGE.md that a look at the class and its text can tell. */
public final class LanguageTest {
    private static final Set<String> FACE = new TreeSet<>(Arrays.asList(
            "int feed(int,int,int,int,int)", "int read(int,int)", "int path(int)", "int compare(int,int)",
            "int list(int,int,boolean)", "long value(int,int,int)", "int text(int,int,int)", "int between(int,int)",
            "int sort(int)", "int from(int,int)", "boolean meet(int,int,boolean)"));

    public static void main(String[] args) throws IOException {
        face();
        classesInside();
        words(Files.readString(Path.of("src/main/java/ValueOrder.java")));
        Check.end();
    }

    private static String shown(Method method) {
        StringBuilder made = new StringBuilder(method.getReturnType().getName()).append(' ').append(method.getName());
        String between = "(";
        for (Class<?> type : method.getParameterTypes()) {
            made.append(between).append(type.getName());
            between = ",";
        }
        return made.append(')').toString();
    }

    private static void face() {
        Class<?> type = ValueOrder.class;
        Check.due("public", Modifier.isPublic(type.getModifiers()), true);
        Check.due("final", Modifier.isFinal(type.getModifiers()), true);
        Set<String> open = new TreeSet<>();
        Set<String> names = new TreeSet<>();
        for (Method method : type.getDeclaredMethods()) {
            if (!Modifier.isPrivate(method.getModifiers())) {
                open.add(shown(method));
                names.add(method.getName());
                Check.due("public " + method, Modifier.isPublic(method.getModifiers()), true);
            }
        }
        Check.due("face " + open, open.equals(FACE), true);
        for (Constructor<?> made : type.getDeclaredConstructors()) {
            Check.due("constructor", made.getParameterCount() == 0 && Modifier.isPublic(made.getModifiers()), true);
        }
        privates(type, names);
        for (Class<?> inside : type.getDeclaredClasses()) {
            privates(inside, names);
        }
        for (Field field : type.getDeclaredFields()) {
            Check.due("private " + field, Modifier.isPrivate(field.getModifiers()), true);
        }
    }

    private static void privates(Class<?> type, Set<String> names) {
        for (Method method : type.getDeclaredMethods()) {
            if (Modifier.isPrivate(method.getModifiers())) {
                Check.due("no name of a public one: " + method, names.contains(method.getName()), false);
            }
            Check.due("parameters of " + method, method.getParameterCount() <= 7, true);
        }
        for (Field field : type.getDeclaredFields()) {
            int modifiers = field.getModifiers();
            Check.due("static is final: " + field, !Modifier.isStatic(modifiers) || Modifier.isFinal(modifiers), true);
        }
    }

    private static void classesInside() {
        Class<?>[] inside = ValueOrder.class.getDeclaredClasses();
        Check.due("at most some twelve classes", inside.length <= 12, true);
        for (Class<?> type : inside) {
            Check.due("static " + type, Modifier.isStatic(type.getModifiers()), true);
            long fields = Arrays.stream(type.getDeclaredFields()).filter(f -> !Modifier.isStatic(f.getModifiers())).count();
            Check.due("at most some twenty fields in " + type, fields <= 20, true);
        }
    }

    private static void words(String source) {
        String code = source.replaceAll("(?s)/\\*.*?\\*/", "").replaceAll("//[^\n]*", "");
        // The arrow of a switch is no lambda.
        code = code.replaceAll("\\b(case [^:;{}]*?|default) ->", "");
        Matcher banned = Pattern.compile("\\b(throw|throws|try|catch|finally|synchronized|assert|package|protected|"
                + "hashCode|System\\.(?!arraycopy)\\w+|Random|Thread|\\w+Exact)\\b|->|::").matcher(code);
        Check.due("word outside the language", banned.find(), false);
        Matcher imports = Pattern.compile("import ([\\w.*]+);").matcher(code);
        while (imports.find()) {
            boolean allowed = imports.group(1).matches("java\\.util\\.(Arrays|ArrayList|List|Iterator)");
            Check.due("import " + imports.group(1), allowed, true);
        }
    }
}
