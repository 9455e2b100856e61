import java.io.IOException;
import java.nio.file.Files;
import java.nio.file.Path;
import java.util.HashMap;
import java.util.Map;
import java.util.regex.Matcher;
import java.util.regex.Pattern;

/** The example in README.md is followed call by call: where a comment begins with an answer, it is the one given. */
public final class ReadmeTest {
    private static final Pattern EXAMPLE = Pattern.compile("```java\n(.*?)```", Pattern.DOTALL);
    private static final Pattern CALL = Pattern.compile("(?:int (\\w+) = )?x\\.(\\w+)\\((.*?)\\); *(?:// (.*))?");
    private static final Pattern TOLD = Pattern.compile("(-?\\d+|true|false)(:.*)?");

    private static final PairedWords WORDS = new PairedWords();
    private static final Map<String, String> NAMES = new HashMap<>(Map.of("PairedWords.END", "-1"));
    private static int told = 0;

    public static void main(String[] args) throws IOException {
        Matcher example = EXAMPLE.matcher(Files.readString(Path.of("README.md")));
        Story.claim("README.md has an example", example.find());
        String[] lines = example.group(1).strip().split("\n+");
        Story.claim("it makes an object", lines[0].equals("PairedWords x = new PairedWords();"));
        for (int i = 1; i < lines.length; i++) {
            follow(lines[i]);
        }
        Story.claim("it tells answers", told >= 6);
        Story.end();
    }

    private static void follow(String line) {
        Matcher call = CALL.matcher(line);
        if (!call.matches()) {
            Story.claim("a call: " + line, false);
            return;
        }
        String got = Story.answer(WORDS, (call.group(2) + values(call.group(3))).split(" "));
        if (call.group(1) != null) {
            NAMES.put(call.group(1), got);
        }
        Matcher due = TOLD.matcher(call.group(4) == null ? "" : call.group(4));
        if (due.matches()) {
            told++;
            Story.claim(line + ", but the answer is " + got, got.equals(due.group(1)));
        }
        Story.claim(line + " throws " + got, !got.endsWith("Exception"));
    }

    private static String values(String arguments) {
        StringBuilder values = new StringBuilder();
        for (String argument : arguments.isEmpty() ? new String[0] : arguments.split(", ")) {
            values.append(' ').append(value(argument));
        }
        return values.toString();
    }

    private static String value(String argument) {
        String power = "1 << ";
        if (argument.startsWith(power)) {
            return String.valueOf(1 << Integer.parseInt(value(argument.substring(power.length()))));
        }
        return NAMES.getOrDefault(argument, argument);
    }
}
