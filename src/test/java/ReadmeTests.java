import java.io.IOException;
import java.lang.reflect.Method;
import java.nio.file.Files;
import java.nio.file.Path;
import java.util.HashSet;
import java.util.Set;
import java.util.regex.Matcher;
import java.util.regex.Pattern;

/** Makes the calls of README.md's example, and holds their answers against those that stand behind them. */
final class ReadmeTests {
    private static final Pattern EXAMPLE = Pattern.compile("(?s)```java\n(.*?)```");
    private static final Pattern CALL = Pattern.compile("house\\.(\\w+)\\((.*)\\); +// (-?\\d+|true|false): (.+)");
    private static final String FIRST_LINE = "SlipHouse house = new SlipHouse();";

    private final SlipHouse house = new SlipHouse();
    private final Set<String> called = new HashSet<>();

    private ReadmeTests() {
    }

    static void run() {
        try {
            Matcher example = EXAMPLE.matcher(Files.readString(Path.of("README.md")));
            Check.due("README has an example", example.find(), true);
            new ReadmeTests().holds(example.group(1).split("\n"));
        } catch (IOException | ReflectiveOperationException e) {
            Check.due("README: " + e, true, false);
        }
    }

    private void holds(String[] lines) throws ReflectiveOperationException {
        Check.due("README, the first line", lines[0], FIRST_LINE);
        for (int i = 1; i < lines.length; i++) {
            Matcher call = CALL.matcher(lines[i]);
            if (call.matches()) {
                Check.due("README " + lines[i], answer(call.group(1), call.group(2).split(", ")), call.group(3));
                printed(call.group(1), call.group(4));
            } else {
                Check.due("README, a line that is no call", lines[i], "");
            }
        }
        Check.due("README shows most of the face", called.size() > 15, true);
    }

    private String answer(String name, String[] arguments) throws ReflectiveOperationException {
        called.add(name);
        Object[] numbers = new Object[arguments[0].isEmpty() ? 0 : arguments.length];
        Class<?>[] types = new Class<?>[numbers.length];
        for (int i = 0; i < numbers.length; i++) {
            numbers[i] = arguments[i].equals("SlipHouse.NONE") ? SlipHouse.NONE : Integer.decode(arguments[i]);
            types[i] = int.class;
        }
        Method method = SlipHouse.class.getMethod(name, types);
        return String.valueOf(method.invoke(house, numbers));
    }

    /** Behind a print stands its text in quotes. */
    private void printed(String name, String text) {
        if (name.equals("print")) {
            StringBuilder octets = new StringBuilder("\"");
            for (int i = 0; house.octet(i) != SlipHouse.NONE; i++) {
                octets.append((char) house.octet(i));
            }
            Check.due("README, the print", octets.append("\"").toString(), text);
        }
    }
}
