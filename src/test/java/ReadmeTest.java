import java.lang.reflect.Method;
import java.nio.file.Files;
import java.nio.file.Path;
import java.util.regex.Matcher;
import java.util.regex.Pattern;

/** README.md's calls answer what is written behind them, and it names every method of the class. */
public final class ReadmeTest {
    private static final Pattern CALL = Pattern.compile("braid\\.(\\w+)\\(([^)]*)\\); +// (-?\\d+)\\b.*");

    public static void main(String[] args) throws Exception {
        Check check = new Check();
        String text = Files.readString(Path.of("README.md"));
        CounterBraid braid = new CounterBraid();
        int calls = 0;
        for (String line : text.split("\n")) {
            Matcher call = CALL.matcher(line);
            if (line.equals("CounterBraid braid = new CounterBraid();")) {
                braid = new CounterBraid();
            } else if (call.matches()) {
                check.due(line, answer(braid, call.group(1), call.group(2)), Long.parseLong(call.group(3)));
                calls++;
            } else {
                check.due("a call without its answer: " + line, line.startsWith("braid.") ? 1 : 0, 0);
            }
        }
        check.due("README.md has calls", calls > 0 ? 1 : 0, 1);
        for (Method method : CounterBraid.class.getMethods()) {
            boolean isNamed = text.contains("`" + method.getName() + "`");
            boolean isOurs = method.getDeclaringClass() == CounterBraid.class;
            check.due("README.md names " + method.getName(), isNamed || !isOurs ? 1 : 0, 1);
        }
        check.end("ReadmeTest");
    }

    private static long answer(CounterBraid braid, String name, String list) throws ReflectiveOperationException {
        String[] words = list.isEmpty() ? new String[0] : list.split(", ");
        Object[] arguments = new Object[words.length];
        for (int i = 0; i < words.length; i++) {
            boolean isBoolean = words[i].equals("true") || words[i].equals("false");
            arguments[i] = isBoolean ? (Object) Boolean.valueOf(words[i]) : (Object) Integer.valueOf(words[i]);
        }
        for (Method method : CounterBraid.class.getMethods()) {
            if (method.getName().equals(name)) {
                return ((Number) method.invoke(braid, arguments)).longValue();
            }
        }
        throw new IllegalArgumentException(name);
    }
}
