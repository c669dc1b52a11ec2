import java.io.IOException;
import java.nio.charset.StandardCharsets;
import java.nio.file.Files;
import java.nio.file.Path;
import java.util.Arrays;
import java.util.regex.Matcher;
import java.util.regex.Pattern;

/** Plays the examples of README.md: behind each call stands the answer that it gives. */
public final class ReadmeTest {
    private static final String NEW = "DoorTears x = new DoorTears();";
    private static final Pattern TEXT = Pattern.compile("for \\(char letter : \"([^\"]*)\"\\.toCharArray\\(\\)\\) \\{");
    private static final Pattern CALL = Pattern.compile("x\\.(\\w+)\\(([-\\d, ]*)\\); *// (-?\\d+)\\b.*");
    private static final int FEWEST_CALLS = 30;

    private static int made = 0;
    private static int wrong = 0;

    private static void fail(String line, String why) {
        wrong++;
        System.out.println("README.md: " + line + ": " + why);
    }

    private static void playCall(Played x, String line) {
        Matcher call = CALL.matcher(line);
        if (!call.matches()) {
            fail(line, "is no call with an answer");
            return;
        }
        String[] parts = call.group(2).isEmpty() ? new String[0] : call.group(2).split(", ");
        int answer = x.call(call.group(1), Arrays.stream(parts).mapToInt(Integer::parseInt).toArray());
        made++;
        if (answer != Integer.parseInt(call.group(3))) {
            fail(line, "answered " + answer);
        }
    }

    private static void playExample(String block) {
        Played x = new Played();
        for (String line : block.strip().split("\n")) {
            Matcher text = TEXT.matcher(line);
            if (text.matches()) {
                x.write(text.group(1));
            } else if (line.startsWith("x.")) {
                playCall(x, line);
            } else if (!line.equals(NEW) && !line.equals("    x.write(letter);") && !line.equals("}")) {
                fail(line, "is not played by this test");
            }
        }
    }

    public static void main(String[] args) throws IOException {
        String readme = Files.readString(Path.of("README.md"), StandardCharsets.UTF_8);
        Matcher blocks = Pattern.compile("```java\n(.*?)```", Pattern.DOTALL).matcher(readme);
        while (blocks.find()) {
            playExample(blocks.group(1));
        }
        if (made < FEWEST_CALLS) {
            fail("the examples", "have only " + made + " calls");
        }
        System.out.println(wrong == 0 ? made + " answers are as README.md has them" : wrong + " are not");
        if (wrong != 0) {
            System.exit(1);
        }
    }
}
