import java.io.IOException;
import java.lang.reflect.Method;
import java.nio.file.Files;
import java.nio.file.Path;
import java.util.ArrayList;
import java.util.Arrays;
import java.util.List;
import java.util.regex.Matcher;
import java.util.regex.Pattern;

/** SENTENCES.md: its words are the document's and leave none of it out; its tests are there and are called. */
final class IndexTest extends TestBase {
    private static final Pattern LINE = Pattern.compile("- \"([^\"]+)\":(.*)");
    private static final Pattern TEST = Pattern.compile("`(\\w+Test)\\.(\\w+)`");
    /** Headings, marks of a block, a method's own line, and the names that the paragraphs of the terms begin with. */
    private static final Pattern NO_SENTENCE = Pattern.compile("(?m)^## .*$|^```.*$|^`[^`]+`:"
            + "|^(PROCESSOR|PORTS|TIMERS|SERIAL|CONVERTER|STORE|PINS)\\.|^WATCHDOG:");

    public static void main(String[] args) throws IOException, ClassNotFoundException {
        List<String> words = new ArrayList<>();
        Matcher line = LINE.matcher(Files.readString(Path.of("SENTENCES.md")));
        while (line.find()) {
            words.add(line.group(1));
            due("tests of: " + line.group(1), dueTests(line.group(2)) > 0, true);
        }
        due("lines are found", words.size() > 80, true);
        Path file = Path.of("../shared/DOC.md");
        if (Files.exists(file)) {
            dueWhole(Files.readString(file), words);
        }
        end();
    }

    private static void dueWhole(String document, List<String> words) {
        int first = document.indexOf("## Terms");
        int last = document.indexOf("## Not promised");
        String said = NO_SENTENCE.matcher(document.substring(first, last)).replaceAll("").replaceAll("\\s+", " ");
        StringBuilder left = new StringBuilder(said);
        for (String w : words) {
            due("words of the document: " + w, said.contains(w), true);
            for (int at = said.indexOf(w); at >= 0; at = said.indexOf(w, at + 1)) {
                left.replace(at, at + w.length(), " ".repeat(w.length()));
            }
        }
        Matcher leftOut = Pattern.compile("\\w+").matcher(left);
        while (leftOut.find()) {
            boolean joins = List.of("and", "or", "but").contains(leftOut.group());
            due("not listed: " + leftOut.group() + " in " + around(said, leftOut.start()), joins, true);
        }
    }

    private static String around(String text, int at) {
        return text.substring(Math.max(0, at - 30), Math.min(text.length(), at + 30));
    }

    private static int dueTests(String names) throws IOException, ClassNotFoundException {
        int tests = 0;
        Matcher test = TEST.matcher(names);
        while (test.find()) {
            tests++;
            String name = test.group(2);
            Method[] all = Class.forName(test.group(1)).getDeclaredMethods();
            due(test.group() + " is there", Arrays.stream(all).anyMatch(m -> m.getName().equals(name)), true);
            String source = Files.readString(Path.of("src/test/java", test.group(1) + ".java"));
            due(test.group() + " is called", source.contains("    " + name + "("), true);
        }
        return tests;
    }
}
