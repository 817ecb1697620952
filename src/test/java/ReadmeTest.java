import java.io.IOException;
import java.lang.reflect.Method;
import java.nio.file.Files;
import java.nio.file.Path;
import java.util.regex.Matcher;
import java.util.regex.Pattern;

/** Each call in the example of README.md answers the number behind it. */
public final class ReadmeTest {
    private static final Pattern CALL = Pattern.compile("printer\\.(\\w+)\\(([-0-9, ]*)\\);\\s*// (-?[0-9.]+): .*");

    public static void main(String[] args) throws IOException, ReflectiveOperationException {
        Check check = new Check();
        TicketJournal printer = new TicketJournal();
        int calls = 0;
        for (String line : Files.readAllLines(Path.of("README.md"))) {
            Matcher call = CALL.matcher(line);
            // A line that the pattern doesn't fit would be an example that nobody checks.
            check.due("a call in the pattern's form: " + line, call.matches() ? 1 : 0, line.startsWith("printer.") ? 1 : 0);
            if (call.matches()) {
                calls++;
                check.due(line, answer(printer, call.group(1), call.group(2)), Double.parseDouble(call.group(3)));
            }
        }
        check.due("whether the example was found", calls > 0 ? 1 : 0, 1);
        check.end("ReadmeTest");
    }

    private static double answer(TicketJournal printer, String name, String list) throws ReflectiveOperationException {
        String[] words = list.isEmpty() ? new String[0] : list.split(", ");
        Object[] arguments = new Object[words.length];
        Class<?>[] types = new Class<?>[words.length];
        for (int i = 0; i < words.length; i++) {
            arguments[i] = Integer.valueOf(words[i]);
            types[i] = int.class;
        }
        Method method = TicketJournal.class.getMethod(name, types);
        return ((Number) method.invoke(printer, arguments)).doubleValue();
    }
}
