import java.io.IOException;
import java.nio.file.Files;
import java.nio.file.Path;
import java.util.List;
import java.util.regex.Matcher;
import java.util.regex.Pattern;

/** What of LANGUAGE.md can be seen in the text of the program; it is run in the project's folder. */
final class LanguageTest {
    private static final Checks checks = new Checks("LanguageTest");

    public static void main(String[] args) throws IOException {
        String source = Files.readString(Path.of("src/main/java/BlockStore.java"));
        String code = source.replaceAll("(?s)/\\*.*?\\*/", "").replaceAll("//[^\n]*", "");
        List<String> ruledOut = List.of("throw", "throws", "try", "catch", "synchronized", "assert", "package",
                "double", "float", "instanceof", "while", "do", "protected", "Thread", "System\\.(?!arraycopy)\\w+",
                "Random", "\\w+Exact", "->", "::", "\\[\\]\\s*\\[\\]", "static\\s*\\{");
        for (String word : ruledOut) {
            boolean letters = Character.isLetter(word.charAt(0));
            checks.due("has '" + word + "'", Pattern.compile(letters ? "\\b" + word + "\\b" : word).matcher(code).find(),
                    false);
        }
        Matcher imports = Pattern.compile("import ([^;]+);").matcher(code);
        while (imports.find()) {
            checks.due("imports " + imports.group(1), imports.group(1).equals("java.util.Arrays"), true);
        }
        Matcher arrays = Pattern.compile("Arrays\\.(\\w+)").matcher(code);
        while (arrays.find()) {
            checks.due("Arrays." + arrays.group(1), List.of("fill", "copyOf").contains(arrays.group(1)), true);
        }
        checks.due("characters above 255", source.chars().anyMatch(c -> c > 255), false);
        checks.end();
    }
}
