import java.io.IOException;
import java.lang.reflect.Method;
import java.nio.file.Files;
import java.nio.file.Path;
import java.util.Arrays;
import java.util.regex.Matcher;
import java.util.regex.Pattern;

/** README.md: its examples answer what it says, and what it names is there. */
final class ReadmeTest extends TestBase {
    private static final String NEW_OBJECT = "TickController x = new TickController();";
    private static final Pattern EXAMPLE = Pattern.compile("(?s)```java\n(.*?)```");
    private static final Pattern CALL = Pattern.compile("x\\.(\\w+)\\(([^)]*)\\);(?:\\s+// answers (-?\\w+).*)?");
    private static final Pattern OWN_PATH = Pattern.compile("`((?:\\.ci|src|\\w+\\.md)[\\w./]*)`");

    public static void main(String[] args) throws IOException, ReflectiveOperationException {
        String readme = Files.readString(Path.of("README.md"));
        Matcher example = EXAMPLE.matcher(readme);
        int examples = 0;
        while (example.find()) {
            examples++;
            dueExample(example.group(1));
        }
        due("examples", examples, 3);
        Matcher path = OWN_PATH.matcher(readme);
        while (path.find()) {
            due("there is " + path.group(1), Files.exists(Path.of(path.group(1))), true);
        }
        for (Method m : TickController.class.getMethods()) {
            boolean own = m.getDeclaringClass() == TickController.class;
            due(m.getName() + " is told of", !own || readme.contains("`" + m.getName() + "("), true);
        }
        end();
    }

    private static void dueExample(String text) throws ReflectiveOperationException {
        TickController x = null;
        for (String line : text.split("\n")) {
            if (line.equals(NEW_OBJECT)) {
                x = new TickController();
                continue;
            }
            Matcher call = CALL.matcher(line);
            due("a line that can be run: " + line, call.matches(), true);
            Object answer = call(x, call.group(1), call.group(2));
            due(line, String.valueOf(answer).equals(String.valueOf(call.group(3))), true);
        }
    }

    /** A method that answers nothing gives null here, as does a line that tells no answer. */
    private static Object call(TickController x, String name, String arguments) throws ReflectiveOperationException {
        Object[] numbers = Arrays.stream(arguments.split(", ")).filter(a -> !a.isEmpty()).map(Integer::valueOf).toArray();
        Class<?>[] types = new Class<?>[numbers.length];
        Arrays.fill(types, int.class);
        return TickController.class.getMethod(name, types).invoke(x, numbers);
    }
}
