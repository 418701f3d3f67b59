import java.lang.reflect.Method;
import java.lang.reflect.Modifier;
import java.nio.file.Files;
import java.nio.file.Path;
import java.util.regex.Matcher;
import java.util.regex.Pattern;

/** The example of README.md answers what stands behind each of its calls, and README.md names every call. */
public final class ReadmeTest {
    private static final Pattern TOLD = Pattern.compile("^feed\\(x, \"(.*)\"\\);$");
    private static final Pattern CALL = Pattern.compile("^x\\.(\\w+)\\(([-0-9, ]*)\\);\\s+// (-?\\d+|true|false)\\b.*$");

    public static void main(String[] args) throws Exception {
        Check check = new Check();
        String page = Files.readString(Path.of("README.md"));
        WornSkin x = new WornSkin();
        int calls = 0;
        for (String line : page.split("\n")) {
            Matcher told = TOLD.matcher(line);
            Matcher call = CALL.matcher(line);
            if (told.matches()) {
                Check.feed(x, told.group(1));
            } else if (call.matches()) {
                calls++;
                String answer = String.valueOf(answer(x, call.group(1), call.group(2)));
                check.due(line + " (answered " + answer + ")", true, answer.equals(call.group(3)));
            } else {
                check.due("a line of the example that is not understood: " + line, false, line.startsWith("x."));
            }
        }
        check.due("calls of the example: " + calls, true, calls >= 20);
        for (Method method : WornSkin.class.getDeclaredMethods()) {
            if (Modifier.isPublic(method.getModifiers())) {
                check.due(method.getName() + " is named", true, page.contains("`" + method.getName() + "`"));
            }
        }
        check.end("ReadmeTest");
    }

    private static Object answer(WornSkin x, String name, String told) throws Exception {
        String[] numbers = told.isEmpty() ? new String[0] : told.split(", ");
        Object[] values = new Object[numbers.length];
        Class<?>[] types = new Class<?>[numbers.length];
        for (int i = 0; i < numbers.length; i++) {
            values[i] = Integer.valueOf(numbers[i]);
            types[i] = int.class;
        }
        return WornSkin.class.getMethod(name, types).invoke(x, values);
    }
}
