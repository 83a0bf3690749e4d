import java.io.IOException;
import java.lang.reflect.Field;
import java.lang.reflect.Method;
import java.lang.reflect.Modifier;
import java.nio.file.Files;
import java.nio.file.Path;
import java.util.ArrayList;
import java.util.Arrays;
import java.util.List;
import java.util.regex.Matcher;
import java.util.regex.Pattern;

/** What ../shared/LANGUAGE.md rules out and a word or the shape of the source betrays. */
final class LanguageTest {
    private static final Check CHECK = new Check("LanguageTest");
    private static final String SOURCE = "src/main/java/CompassRolls.java";
    private static final String[] RULED_OUT = {
        "\\btry\\b", "\\bcatch\\b", "\\bfinally\\b", "\\bsynchronized\\b", "\\bassert\\b", "->", "::",
        "\\bpackage\\b", "\\bprotected\\b", "\\bvolatile\\b", "\\bnative\\b", "Exact\\(", "\\bhashCode\\b",
        "\\bequals\\b", "\\btoString\\b", "\\bSystem\\.(?!arraycopy)", "\\bThread\\b", "\\bRandom\\b",
        "\"\\s*\\+", "\\+\\s*\"", "^import (?!java\\.util\\.Arrays;)", "[^\\x00-\\x7f]",
        "\\bArrays\\.(?!(fill|copyOf|copyOfRange)\\()", "\\bMath\\.(?!(max|min|abs|floorDiv|floorMod)\\()",
        "\\bjava\\.(?!util\\.Arrays;)",
    };

    public static void main(String[] args) throws IOException {
        String source = Files.readString(Path.of(SOURCE)).replaceAll("/\\*(?s:.*?)\\*/", "").replaceAll("//.*", "");
        for (String word : RULED_OUT) {
            boolean found = Pattern.compile(word, Pattern.MULTILINE).matcher(source).find();
            CHECK.due("the source has " + word, false, found);
        }
        objectsAreMadeAhead(source);
        methodsAreShort(source);
        List<Class<?>> classes = new ArrayList<>(Arrays.asList(CompassRolls.class.getDeclaredClasses()));
        for (Class<?> inside : classes) {
            CHECK.due(inside + " is static", true, Modifier.isStatic(inside.getModifiers()));
            CHECK.due(inside + " can't be seen", false, Modifier.isPublic(inside.getModifiers()));
            CHECK.due(inside + " has no class inside", 0, inside.getDeclaredClasses().length);
        }
        classes.add(CompassRolls.class);
        CHECK.due("some twelve classes", true, classes.size() <= 12);
        for (Class<?> one : classes) {
            fields(one);
            parameters(one);
        }
        CHECK.end();
    }

    /** Calls make no objects but exceptions: all others are made by a field or in a constructor. */
    private static void objectsAreMadeAhead(String source) {
        Pattern allowed = Pattern.compile("throw new |private final .* = new |^ {16}\\w+\\[i\\] = new \\w+\\(\\);");
        for (String line : source.split("\n")) {
            if (line.contains("new ")) {
                CHECK.due("made ahead: " + line.strip(), true, allowed.matcher(line).find());
            }
        }
    }

    private static void methodsAreShort(String source) {
        Matcher method = Pattern.compile("(?sm)^( {4}| {8})\\w[^;{}=]*\\) ?[^;{}=]*\\{$.*?^\\1\\}$").matcher(source);
        int found = 0;
        while (method.find()) {
            found++;
            long lines = method.group().lines().count();
            CHECK.due("sixty lines: " + method.group().lines().findFirst().get().strip(), true, lines <= 60);
        }
        CHECK.due("methods and constructors are found", true, found > 22);
    }

    private static void fields(Class<?> one) {
        int own = 0;
        for (Field field : one.getDeclaredFields()) {
            Class<?> type = field.getType();
            boolean isConstant = Modifier.isStatic(field.getModifiers());
            own += isConstant ? 0 : 1;
            Class<?> each = type.isArray() ? type.getComponentType() : type;
            boolean isPlain = each.isPrimitive() || each == String.class && each == type;
            boolean isFinal = Modifier.isFinal(field.getModifiers());
            CHECK.due(field + " is final, if it is static", true, !isConstant || isFinal);
            CHECK.due(field + " is of a type allowed", true, isPlain || isOwn(each) && !isConstant);
        }
        CHECK.due(one + " has some twenty fields", true, own <= 20);
    }

    private static boolean isOwn(Class<?> type) {
        return type.getNestHost() == CompassRolls.class;
    }

    private static void parameters(Class<?> one) {
        for (Method method : one.getDeclaredMethods()) {
            CHECK.due(method + " takes at most seven", true, method.getParameterCount() <= 7);
        }
    }
}
