import java.lang.reflect.InvocationTargetException;
import java.lang.reflect.Method;
import java.nio.file.Files;
import java.nio.file.Path;
import java.util.List;
import java.util.regex.Matcher;
import java.util.regex.Pattern;

/** The calls that README.md shows, each with the answer that is written behind it. */
public final class ReadmeTest {
    private static final Pattern CALL = Pattern.compile("x\\.(\\w+)\\((.*?)\\);\\s+// (.*)");

    private static Object number(String text, Class<?> type) {
        long value = Long.decode(text.trim());
        return type == long.class ? (Object) value : (Object) (int) value;
    }

    private static String made(UnitText x, String name, String arguments) throws ReflectiveOperationException {
        String[] parts = arguments.isEmpty() ? new String[0] : arguments.split(",");
        for (Method method : UnitText.class.getMethods()) {
            if (method.getName().equals(name)) {
                Object[] values = new Object[parts.length];
                for (int i = 0; i < parts.length; i++) {
                    values[i] = number(parts[i], method.getParameterTypes()[i]);
                }
                try {
                    return String.valueOf(method.invoke(x, values));
                } catch (InvocationTargetException e) {
                    return e.getCause().getClass().getSimpleName();
                }
            }
        }
        return "no such method";
    }

    private static String answerIn(String note) {
        String first = note.split("[:;]")[0].trim();
        if (first.startsWith("'")) {
            return String.valueOf((int) first.charAt(1));
        }
        return first.equals("NONE") ? "-1" : first.equals("NOTHING") ? String.valueOf(UnitText.NOTHING) : first;
    }

    public static void main(String[] args) throws Exception {
        List<String> lines = Files.readAllLines(Path.of("README.md"));
        UnitText x = new UnitText();
        int calls = 0;
        for (String line : lines) {
            Matcher m = CALL.matcher(line);
            if (m.matches()) {
                calls++;
                String got = made(x, m.group(1), m.group(2));
                Checks.same(line, got, m.group(1).equals("feed") ? "null" : answerIn(m.group(3)));
            }
        }
        Checks.same("calls in README.md", calls > 30, true);
        Checks.finish();
    }
}
