import java.io.IOException;
import java.lang.reflect.Method;
import java.nio.file.Files;
import java.nio.file.Path;
import java.util.Set;
import java.util.TreeSet;
import java.util.regex.Matcher;
import java.util.regex.Pattern;

/** The calls that README.md shows, one after the other on one head, answer what stands beside them. */
public final class ReadmeTest {
    private static final Pattern CALL = Pattern.compile("head\\.(\\w+)\\(([-\\d, ]+)\\);\\s+// (-?\\d+)\\b.*");

    private static final Due due = new Due("ReadmeTest");

    private ReadmeTest() {
    }

    public static void main(String[] args) throws IOException, ReflectiveOperationException {
        DividingHead head = new DividingHead();
        Set<String> shown = new TreeSet<>();
        for (String line : Files.readAllLines(Path.of("README.md"))) {
            Matcher call = CALL.matcher(line);
            if (call.matches()) {
                due.is(line, answer(head, call.group(1), call.group(2)), Integer.parseInt(call.group(3)));
                shown.add(call.group(1));
            } else {
                due.is("a call without an answer: " + line, line.startsWith("head.") ? 1 : 0, 0);
            }
        }
        // All but wheel and teeth, which are used as circle and holes are.
        due.is("calls shown", shown.size(), 19);
        due.end();
    }

    private static int answer(DividingHead head, String name, String arguments)
            throws ReflectiveOperationException {
        String[] texts = arguments.split(", ");
        Object[] numbers = new Object[texts.length];
        Class<?>[] types = new Class<?>[texts.length];
        for (int n = 0; n < texts.length; n++) {
            numbers[n] = Integer.valueOf(texts[n]);
            types[n] = int.class;
        }
        Method method = DividingHead.class.getMethod(name, types);
        return (Integer) method.invoke(head, numbers);
    }
}
