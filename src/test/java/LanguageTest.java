import java.io.IOException;
import java.nio.file.Files;
import java.nio.file.Path;
import java.util.regex.Matcher;
import java.util.regex.Pattern;

/** The rules of LANGUAGE.md that can be seen in the words of the source. */
public final class LanguageTest {
    private static final String[] NEVER = {"throw", "try", "catch", "synchronized", "assert", "package", "native",
        "volatile", "transient", "protected", "Object", "Exception", "Throwable", "Thread", "Random", "hashCode",
        "toString", "equals"};
    private static final String[] NEVER_SIGNS = {"->", "::", "static {", "@", "System.out", "System.in", "Exact("};

    public static void main(String[] args) throws IOException {
        String source = Files.readString(Path.of("src/main/java/OathCoach.java"));
        String code = source.replaceAll("(?s)/\\*.*?\\*/", "").replaceAll("//[^\n]*", "")
            .replaceAll("\"[^\"\n]*\"", "\"\"").replaceAll("'[^'\n]*'", "' '");
        words(code);
        Check.same("signs beyond 127", source.chars().filter(c -> c > 127).count(), 0);
        Check.same("imports", found(code, "import "), 1);
        Check.same("import of Arrays", found(code, "import java\\.util\\.Arrays;"), 1);
        Check.same("public classes", found(code, "public (final )?class"), 1);
        Check.same("twelve classes at most", found(code, "\\b(class|interface|enum|record) [A-Z]") <= 12 ? 1 : 0, 1);
        Check.same("classes inside are static", found(code, "(?m)^    private static final class "),
            found(code, "(?m)^    .*\\bclass [A-Z]"));
        methodsAreShort(code);
        Check.finish();
    }

    private static void words(String code) {
        for (String word : NEVER) {
            Check.same("the word " + word, found(code, "\\b" + word + "\\b"), 0);
        }
        for (String sign : NEVER_SIGNS) {
            Check.same("the sign " + sign, found(code, Pattern.quote(sign)), 0);
        }
    }

    private static int found(String code, String pattern) {
        Matcher m = Pattern.compile(pattern).matcher(code);
        int times = 0;
        while (m.find()) {
            times++;
        }
        return times;
    }

    private static void methodsAreShort(String code) {
        Matcher m = Pattern.compile("(?m)^( {4}| {8})(?! )[a-zA-Z\\[\\] ]+\\(([^)]*)\\) \\{\n(?s:.*?)\n\\1\\}").matcher(code);
        int methods = 0;
        while (m.find()) {
            methods++;
            String head = m.group().substring(0, m.group().indexOf('\n')).trim();
            Check.same("sixty lines at most: " + head, m.group().lines().count() <= 60 ? 1 : 0, 1);
            Check.same("seven parameters at most: " + head, m.group(2).split(",").length <= 7 ? 1 : 0, 1);
        }
        Check.same("methods are seen", methods > 60 ? 1 : 0, 1);
    }
}
