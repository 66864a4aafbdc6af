import java.io.IOException;
import java.nio.file.Files;
import java.nio.file.Path;
import java.util.Map;
import java.util.regex.Matcher;
import java.util.regex.Pattern;

/** README.md: each call that it shows answers as it says; it is run in the project's folder. */
final class ReadmeTest implements Answers {
    private static final Pattern EXAMPLE = Pattern.compile("(?s)```java\n(.*?)```");
    private static final String NEW_OBJECT = "BlockStore store = new BlockStore();";
    private static final Pattern CALL = Pattern.compile("store\\.(\\w+\\([^)]*\\)); +// (-?\\w+).*");
    private static final Map<String, Integer> NAMES = Map.of("OK", OK, "DOWN", DOWN, "UNFORMATTED", UNFORMATTED,
            "NO_TRANSACTION", NO_TRANSACTION, "IN_TRANSACTION", IN_TRANSACTION, "ABSENT", ABSENT, "FULL", FULL,
            "NONE", NONE, "true", TRUE, "false", FALSE);
    private static final Sentences says = new Sentences("ReadmeTest");

    public static void main(String[] args) throws IOException {
        Matcher examples = EXAMPLE.matcher(Files.readString(Path.of("README.md")));
        int number = 0;
        while (examples.find()) {
            number++;
            example(number, examples.group(1));
        }
        if (number == 0) {
            says.of("README.md has no example", x -> { });
        }
        says.end();
    }

    private static void example(int number, String text) {
        says.of("README.md, example " + number, x -> {
            for (String line : text.split("\n")) {
                line(x, line);
            }
        });
    }

    private static void line(Run x, String line) {
        Matcher call = CALL.matcher(line);
        if (call.matches()) {
            x.due(call.group(1), answer(call.group(2)));
        } else if (!line.isEmpty() && !line.startsWith(NEW_OBJECT)) {
            says.wrong("is no call with its answer: " + line);
        }
    }

    private static long answer(String text) {
        Integer named = NAMES.get(text);
        if (named != null) {
            return named;
        }
        if (!text.matches("-?\\d+")) {
            says.wrong("is no answer: " + text);
            return 0;
        }
        return Long.parseLong(text);
    }
}
