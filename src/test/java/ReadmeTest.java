import java.io.File;
import java.lang.reflect.Method;
import java.lang.reflect.Modifier;
import java.nio.file.Files;
import java.nio.file.Path;
import java.util.List;
import java.util.regex.Matcher;
import java.util.regex.Pattern;

/** README.md says what the class does: its example answers so, and its tables leave nothing out. */
public final class ReadmeTest {
    private static final Pattern TEXT = Pattern.compile("String text = \"(.*)\";.*");
    private static final Pattern ANSWER =
        Pattern.compile("x\\.(\\w+)\\((.*)\\);\\s*// (-?\\d+)(:.*)?");
    // punch, run, line, agrees and undo.
    private static final int ANSWERS = 5;

    public static void main(String[] args) throws Exception {
        Check check = new Check();
        check.under("README.md");
        List<String> lines = Files.readAllLines(Path.of("README.md"));
        example(check, lines);
        String page = String.join("\n", lines);
        calls(check, page);
        tests(check, page);
        check.end("ReadmeTest");
    }

    /** The calls of the example that tell their answer, on a new object with the example's text. */
    private static void example(Check check, List<String> lines) throws Exception {
        CardTabulator x = new CardTabulator();
        int answers = 0;
        for (String line : lines) {
            Matcher text = TEXT.matcher(line);
            if (text.matches()) {
                Check.type(x, text.group(1));
            }
            Matcher answer = ANSWER.matcher(line);
            if (answer.matches()) {
                int got = call(x, answer.group(1), answer.group(2));
                check.due(line, got, Integer.parseInt(answer.group(3)));
                answers++;
            }
        }
        check.due("number of answers in the example", answers, ANSWERS);
    }

    private static int call(CardTabulator x, String name, String arguments) throws Exception {
        String[] told = arguments.isEmpty() ? new String[0] : arguments.split(", ");
        Object[] numbers = new Object[told.length];
        Class<?>[] types = new Class<?>[told.length];
        for (int i = 0; i < told.length; i++) {
            numbers[i] = Integer.parseInt(told[i]);
            types[i] = int.class;
        }
        return (Integer) CardTabulator.class.getMethod(name, types).invoke(x, numbers);
    }

    private static void calls(Check check, String page) {
        for (Method method : CardTabulator.class.getDeclaredMethods()) {
            if (Modifier.isPublic(method.getModifiers())) {
                boolean listed = page.contains("`" + method.getName() + "`");
                check.due("lists " + method.getName(), listed ? 1 : 0, 1);
            }
        }
    }

    private static void tests(Check check, String page) {
        String[] names = new File("src/test/java").list();
        check.due("finds the tests", names == null ? 0 : 1, 1);
        for (String name : names == null ? new String[0] : names) {
            if (name.endsWith("Test.java")) {
                boolean listed = page.contains("| `" + name.replace(".java", "") + "` |");
                check.due("lists " + name, listed ? 1 : 0, 1);
            }
        }
    }
}
