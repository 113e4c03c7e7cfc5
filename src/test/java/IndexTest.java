import java.io.IOException;
import java.lang.reflect.Method;
import java.nio.file.Files;
import java.nio.file.Path;
import java.util.Arrays;
import java.util.regex.Matcher;
import java.util.regex.Pattern;

/** BOUNDARIES.md: its words are the document's, and its tests are there and are called. */
final class IndexTest extends TestBase {
    private static final Pattern WORDS = Pattern.compile("- \"([^\"]+)\":(.*)");
    private static final Pattern TEST = Pattern.compile("`(\\w+Test)\\.(\\w+)`");

    public static void main(String[] args) throws IOException, ClassNotFoundException {
        Path file = Path.of("../shared/DOC.md");
        boolean hasDocument = Files.exists(file);
        String document = hasDocument ? plain(Files.readString(file)) : "";
        Matcher line = WORDS.matcher(Files.readString(Path.of("BOUNDARIES.md")));
        int lines = 0;
        while (line.find()) {
            lines++;
            boolean isThere = !hasDocument || document.contains(plain(line.group(1)));
            due("words of the document: " + line.group(1), isThere, true);
            due("tests of: " + line.group(1), dueTests(line.group(2)) > 0, true);
        }
        due("lines are found", lines > 80, true);
        end();
    }

    private static String plain(String text) {
        return text.replaceAll("\\s+", " ");
    }

    private static int dueTests(String names) throws IOException, ClassNotFoundException {
        int tests = 0;
        Matcher test = TEST.matcher(names);
        while (test.find()) {
            tests++;
            String name = test.group(2);
            Method[] all = Class.forName(test.group(1)).getDeclaredMethods();
            due(test.group() + " is there", Arrays.stream(all).anyMatch(m -> m.getName().equals(name)), true);
            String source = Files.readString(Path.of("src/test/java", test.group(1) + ".java"));
            due(test.group() + " is called", source.contains("    " + name + "("), true);
        }
        return tests;
    }
}
