import java.io.IOException;
import java.lang.reflect.Constructor;
import java.lang.reflect.Executable;
import java.lang.reflect.Field;
import java.lang.reflect.Method;
import java.lang.reflect.Modifier;
import java.nio.file.Files;
import java.nio.file.Path;
import java.util.List;
import java.util.regex.Matcher;
import java.util.regex.Pattern;

/** What LANGUAGE.md rules out and can be seen in the program's text or classes; it is run in the project's folder. */
final class LanguageTest {
    private static final Checks checks = new Checks("LanguageTest");

    public static void main(String[] args) throws IOException {
        String source = Files.readString(Path.of("src/main/java/BlockStore.java"));
        String code = source.replaceAll("(?s)/\\*.*?\\*/", "").replaceAll("//[^\n]*", "");
        checks.due("rule 3: characters above 255", code.chars().anyMatch(c -> c > 255), false);
        String bare = code.replaceAll("\"(\\\\.|[^\"\\\\\n])*\"", "\"\"");
        words(bare);
        library(bare);
        inside(BlockStore.class);
        checks.end();
    }

    private static void words(String code) {
        List<String> ruledOut = List.of("\\bthrows?\\b", "\\btry\\b", "\\bcatch\\b", "\\bsynchronized\\b",
                "\\bassert\\b", "\\bpackage\\b", "\\bThread\\b", "\\bObject\\b", "\\bRandom\\b", "\\bhashCode\\b",
                "\\b(Math|Integer|Long)\\.\\w+Exact\\b", "\\bSystem\\.(?!arraycopy\\b)", "\\bstatic\\s*\\{", "::",
                "(?m)^(?!\\s*(case|default)\\b).*->");
        for (String pattern : ruledOut) {
            checks.due("has " + pattern, Pattern.compile(pattern).matcher(code).find(), false);
        }
    }

    private static void library(String code) {
        Matcher imports = Pattern.compile("\\bimport ([^;]+);").matcher(code);
        List<String> classes = List.of("Arrays", "ArrayList", "List", "Iterator", "*");
        while (imports.find()) {
            String name = imports.group(1);
            boolean listed = name.startsWith("java.util.") && classes.contains(name.substring(10));
            checks.due("rule 4: imports " + name, listed, true);
        }
        Matcher arrays = Pattern.compile("\\bArrays\\.(\\w+)").matcher(code);
        while (arrays.find()) {
            boolean listed = List.of("fill", "copyOf", "copyOfRange").contains(arrays.group(1));
            checks.due("rule 4: Arrays." + arrays.group(1), listed, true);
        }
    }

    private static void inside(Class<?> one) {
        for (Field field : one.getDeclaredFields()) {
            boolean kept = !Modifier.isStatic(field.getModifiers()) || Modifier.isFinal(field.getModifiers());
            checks.due("rule 5: static fields are final: " + field, kept, true);
        }
        for (Method method : one.getDeclaredMethods()) {
            parameters(method);
        }
        for (Constructor<?> constructor : one.getDeclaredConstructors()) {
            parameters(constructor);
        }
        for (Class<?> below : one.getDeclaredClasses()) {
            checks.due("rule 2: static: " + below, Modifier.isStatic(below.getModifiers()), true);
            inside(below);
        }
    }

    private static void parameters(Executable called) {
        checks.due("rule 11: at most seven parameters: " + called, called.getParameterCount() <= 7, true);
    }
}
