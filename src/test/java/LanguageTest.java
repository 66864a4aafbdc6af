import java.io.IOException;
import java.nio.file.Files;
import java.nio.file.Path;
import java.util.List;
import java.util.regex.Matcher;
import java.util.regex.Pattern;

/** What LANGUAGE.md rules out and can be seen in the text of the program; it is run in the project's folder. */
final class LanguageTest {
    private static final Checks checks = new Checks("LanguageTest");

    public static void main(String[] args) throws IOException {
        String source = Files.readString(Path.of("src/main/java/BlockStore.java"));
        String code = source.replaceAll("(?s)/\\*.*?\\*/", "").replaceAll("//[^\n]*", "");
        words(code);
        library(code);
        checks.due("characters above 255", source.chars().anyMatch(c -> c > 255), false);
        checks.end();
    }

    private static void words(String code) {
        List<String> ruledOut = List.of("\\bthrows?\\b", "\\btry\\b", "\\bcatch\\b", "\\bsynchronized\\b",
                "\\bassert\\b", "\\bpackage\\b", "\\bprotected\\b", "\\bvolatile\\b", "\\bnative\\b",
                "\\bThread\\b", "\\bObject\\b", "\\bRandom\\b", "\\bhashCode\\b", "\\w+Exact\\b",
                "\\bSystem\\.(?!arraycopy\\b)", "\\bstatic\\s*\\{", "::", "(?m)^(?!\\s*(case|default)\\b).*->");
        for (String pattern : ruledOut) {
            checks.due("has " + pattern, Pattern.compile(pattern).matcher(code).find(), false);
        }
    }

    private static void library(String code) {
        Matcher imports = Pattern.compile("\\bimport ([^;]+);").matcher(code);
        List<String> classes = List.of("Arrays", "ArrayList", "List", "Iterator");
        while (imports.find()) {
            String name = imports.group(1);
            boolean listed = name.startsWith("java.util.") && classes.contains(name.substring(10));
            checks.due("imports " + name, listed, true);
        }
        Matcher arrays = Pattern.compile("\\bArrays\\.(\\w+)").matcher(code);
        while (arrays.find()) {
            boolean listed = List.of("fill", "copyOf", "copyOfRange").contains(arrays.group(1));
            checks.due("Arrays." + arrays.group(1), listed, true);
        }
    }
}
