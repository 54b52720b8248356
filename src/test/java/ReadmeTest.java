import java.io.IOException;
import java.nio.file.Files;
import java.nio.file.Path;
import java.util.List;
import java.util.regex.Matcher;
import java.util.regex.Pattern;

/** The example of README.md: each of its calls answers what stands behind it. */
public final class ReadmeTest {
    private static final Pattern TEXT = Pattern.compile("for \\(char c : \"([^\"]*)\"\\.toCharArray\\(\\)\\) \\{");
    private static final Pattern CALL = Pattern.compile("x\\.(\\w+)\\(([-0-9, ]*)\\); +// (-?\\d+|[A-Z]+)(:.*)?");
    private static final Pattern OTHER = Pattern.compile("OathCoach x = new OathCoach\\(\\);| {4}x\\.feed\\(c\\);|\\}|//.*|");

    public static void main(String[] args) throws IOException {
        OathCoach x = new OathCoach();
        List<String> lines = example();
        int calls = 0;
        for (String line : lines) {
            Matcher text = TEXT.matcher(line);
            Matcher call = CALL.matcher(line);
            if (text.matches()) {
                Check.feed(x, text.group(1));
            } else if (call.matches()) {
                String numbers = call.group(2).isEmpty() ? "" : " " + call.group(2).replace(",", "");
                Check.says(x, call.group(1) + numbers + " = " + call.group(3));
                calls++;
            } else {
                Check.same("a line that is no call: " + line, OTHER.matcher(line).matches() ? 1 : 0, 1);
            }
        }
        Check.same("calls with an answer are seen", calls >= 40 ? 1 : 0, 1);
        Check.finish();
    }

    private static List<String> example() throws IOException {
        List<String> lines = Files.readAllLines(Path.of("README.md"));
        int from = lines.indexOf("```java");
        Check.same("there is an example", from >= 0 ? 1 : 0, 1);
        List<String> behind = lines.subList(from + 1, lines.size());
        return behind.subList(0, behind.indexOf("```"));
    }
}
