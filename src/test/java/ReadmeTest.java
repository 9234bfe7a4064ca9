import java.io.IOException;
import java.lang.reflect.Method;
import java.nio.file.Files;
import java.nio.file.Path;
import java.util.regex.Matcher;
import java.util.regex.Pattern;

/** The example of README.md, call by call: each is told there with its answer. */
public final class ReadmeTest {
    private static final Pattern CALL = Pattern.compile("trees\\.(\\w+)\\((.*)\\); +// (2\\^40|-?\\d+).*");

    public static void main(String[] args) throws IOException, ReflectiveOperationException {
        Checks checks = new Checks();
        TwinTrees trees = new TwinTrees();
        for (String line : Files.readAllLines(Path.of("README.md"))) {
            Matcher call = CALL.matcher(line);
            if (call.matches()) {
                long want = call.group(3).equals("2^40") ? 1L << 40 : Long.parseLong(call.group(3));
                checks.due(line.strip(), answer(trees, call.group(1), call.group(2)), want);
            } else if (line.startsWith("trees.")) {
                checks.due(line.strip() + " tells no answer", 0, 1);
            }
        }
        checks.end("ReadmeTest");
    }

    private static long answer(TwinTrees trees, String name, String written) throws ReflectiveOperationException {
        String[] arguments = written.isEmpty() ? new String[0] : written.split(", ");
        Object[] values = new Object[arguments.length];
        for (int i = 0; i < arguments.length; i++) {
            values[i] = valueOf(arguments[i]);
        }
        for (Method method : TwinTrees.class.getMethods()) {
            if (method.getName().equals(name) && method.getParameterCount() == values.length) {
                return ((Number) method.invoke(trees, values)).longValue();
            }
        }
        throw new NoSuchMethodException(name);
    }

    private static Object valueOf(String argument) {
        if (argument.equals("true") || argument.equals("false")) {
            return Boolean.valueOf(argument);
        }
        return Integer.valueOf(argument);
    }
}
