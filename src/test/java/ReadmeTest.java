import java.io.IOException;
import java.lang.reflect.Method;
import java.lang.reflect.Modifier;
import java.nio.file.Files;
import java.nio.file.Path;
import java.util.regex.Matcher;
import java.util.regex.Pattern;

/** The example of README.md: each of its calls answers what the page says behind it. */
final class ReadmeTest {
    private static final Check CHECK = new Check("ReadmeTest");
    private static final Pattern CALL = Pattern.compile("rolls\\.(\\w+)\\(([\\d, ]*)\\);\\s*// (-?\\w+).*");

    public static void main(String[] args) throws IOException, ReflectiveOperationException {
        CompassRolls rolls = new CompassRolls();
        for (String line : example()) {
            Matcher call = CALL.matcher(line);
            boolean isCall = line.startsWith("rolls.");
            CHECK.due("the call can be read: " + line, isCall, call.matches());
            if (isCall && call.matches()) {
                CHECK.due(line, due(call.group(3)), answer(rolls, call.group(1), call.group(2)));
            }
        }
        everyMethodIsShown(example());
        CHECK.end();
    }

    private static String[] example() throws IOException {
        String page = Files.readString(Path.of("README.md"));
        int begin = page.indexOf("```java\n") + 8;
        return page.substring(begin, page.indexOf("```", begin)).split("\n");
    }

    private static long due(String told) throws ReflectiveOperationException {
        if (told.equals("true") || told.equals("false")) {
            return told.equals("true") ? 1 : 0;
        }
        boolean isNumber = told.matches("-?\\d+");
        return isNumber ? Long.parseLong(told) : CompassRolls.class.getField(told).getInt(null);
    }

    private static long answer(CompassRolls rolls, String name, String told) throws ReflectiveOperationException {
        String[] numbers = told.isEmpty() ? new String[0] : told.split(", ");
        Object[] arguments = new Object[numbers.length];
        for (int i = 0; i < numbers.length; i++) {
            arguments[i] = Integer.valueOf(numbers[i]);
        }
        Object answer = method(name).invoke(rolls, arguments);
        return answer instanceof Boolean ? (Boolean) answer ? 1 : 0 : (Integer) answer;
    }

    private static Method method(String name) throws ReflectiveOperationException {
        for (Method m : CompassRolls.class.getDeclaredMethods()) {
            if (m.getName().equals(name)) {
                return m;
            }
        }
        throw new NoSuchMethodException(name);
    }

    private static void everyMethodIsShown(String[] lines) {
        String example = String.join("\n", lines);
        for (Method m : CompassRolls.class.getDeclaredMethods()) {
            if (Modifier.isPublic(m.getModifiers())) {
                CHECK.due("README.md shows " + m.getName(), true, example.contains("rolls." + m.getName() + "("));
            }
        }
    }
}
