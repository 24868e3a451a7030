import java.io.IOException;
import java.lang.reflect.Method;
import java.nio.file.Files;
import java.nio.file.Path;
import java.util.regex.Matcher;
import java.util.regex.Pattern;

/** The calls that README.md shows answer what stands behind them, and every call of the face is named there. */
public final class ReadmeTest {
    private static final Pattern CALL = Pattern.compile("x\\.(\\w+)\\(([^)]*)\\); +// (\\S+).*");

    private final Checks checks = new Checks("ReadmeTest");

    public static void main(String[] args) throws IOException, ReflectiveOperationException {
        ReadmeTest test = new ReadmeTest();
        String readme = Files.readString(Path.of("README.md"));
        test.runCalls(readme);
        test.nameCalls(readme);
        test.checks.finish();
    }

    private void runCalls(String readme) throws ReflectiveOperationException {
        EachAddsALine x = new EachAddsALine();
        int calls = 0;
        for (String line : readme.split("\n")) {
            Matcher call = CALL.matcher(line);
            if (call.matches()) {
                calls++;
                String got = String.valueOf(answer(x, call.group(1), call.group(2)));
                checks.due(line + " (it answered " + got + ")", got.equals(call.group(3)), true);
            } else {
                checks.due("a call without its answer: " + line, line.startsWith("x."), false);
            }
        }
        checks.due("calls are shown", calls > 0, true);
    }

    private static Object answer(EachAddsALine x, String name, String told) throws ReflectiveOperationException {
        String[] numbers = told.isEmpty() ? new String[0] : told.split(", ");
        Class<?>[] types = new Class<?>[numbers.length];
        Object[] values = new Object[numbers.length];
        for (int k = 0; k < numbers.length; k++) {
            types[k] = int.class;
            values[k] = Integer.decode(numbers[k]);
        }
        return EachAddsALine.class.getMethod(name, types).invoke(x, values);
    }

    private void nameCalls(String readme) {
        for (Method method : EachAddsALine.class.getDeclaredMethods()) {
            if (java.lang.reflect.Modifier.isPublic(method.getModifiers())) {
                checks.due("names " + method.getName(), readme.contains("`" + method.getName() + "`"), true);
            }
        }
    }
}
