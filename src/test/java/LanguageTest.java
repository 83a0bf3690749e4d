import java.io.IOException;
import java.nio.file.Files;
import java.nio.file.Path;
import java.util.regex.Pattern;

/** What ../shared/LANGUAGE.md rules out and a word of the source betrays. */
final class LanguageTest {
    private static final String SOURCE = "src/main/java/CompassRolls.java";
    private static final String[] RULED_OUT = {
        "\\btry\\b", "\\bcatch\\b", "\\bfinally\\b", "\\bsynchronized\\b", "\\bassert\\b", "->", "::",
        "\\bpackage\\b", "\\bprotected\\b", "\\bvolatile\\b", "\\bnative\\b", "Exact\\(", "\\bhashCode\\b",
        "\\bequals\\b", "\\btoString\\b", "\\bSystem\\.(?!arraycopy)", "\\bThread\\b", "\\bRandom\\b",
        "\"\\s*\\+", "\\+\\s*\"", "^import (?!java\\.util\\.Arrays;)", "[^\\x00-\\x7f]",
    };

    public static void main(String[] args) throws IOException {
        Check check = new Check("LanguageTest");
        String source = Files.readString(Path.of(SOURCE)).replaceAll("/\\*(?s:.*?)\\*/", "").replaceAll("//.*", "");
        for (String word : RULED_OUT) {
            boolean found = Pattern.compile(word, Pattern.MULTILINE).matcher(source).find();
            check.due("the source has " + word, false, found);
        }
        check.end();
    }
}
