import java.io.IOException;
import java.nio.file.Files;
import java.nio.file.Path;
import java.util.regex.Matcher;
import java.util.regex.Pattern;

/** The class keeps to the rules of LANGUAGE.md that a look at its text can tell. It is run from the project's root. */
public final class LanguageTest {
    /** What the rules forbid, or what this class does without. */
    private static final String[] FORBIDDEN = {
        "\\bimport\\b", "\\bpackage\\b", "->", "::", "Exact\\b", "\\bfinally\\b", "\\bcatch\\b", "\\btry\\b",
        "\\bsynchronized\\b", "\\bassert\\b", "\\binstanceof\\b", "\\bstatic\\s*\\{", "\\bhashCode\\b",
        "\\btoString\\b", "\\bSystem\\b", "\\bThread\\b", "\\bnull\\b", "\\bprotected\\b", "\\?\\s*>",
        "\\bthrow\\s+(?!new (IllegalStateException|IllegalArgumentException|IndexOutOfBoundsException)\\(\")",
        "\\bstatic\\s+(?!final\\b|int\\b|boolean\\b)", "\\bMath\\.(?!min\\b|max\\b)", "\\bInteger\\.(?!bitCount\\b)",
    };

    public static void main(String[] args) throws IOException {
        String text = Files.readString(Path.of("src/main/java/GlossaryCrown.java"));
        for (int i = 0; i < text.length(); i++) {
            if (text.charAt(i) > 126) {
                Due.report("a sign beyond ASCII at " + i);
            }
        }
        String code = text.replaceAll("(?s)/\\*.*?\\*/", "").replaceAll("//[^\n]*", "")
            .replaceAll("\"[^\"\n]*\"", "\"\"");
        for (String forbidden : FORBIDDEN) {
            Matcher matcher = Pattern.compile(forbidden).matcher(code);
            Due.is("places with " + forbidden, matcher.results().count(), 0);
        }
        lengthOfMethods(code);
        Due.close("LanguageTest");
    }

    /** A method ends where its brace closes on the column where its head begins. */
    private static void lengthOfMethods(String code) {
        String[] lines = code.split("\n");
        for (int i = 0; i < lines.length; i++) {
            boolean isHead = lines[i].matches(" {4,8}(public|private|static|int|long|double|boolean|void)\\b.*\\(.*");
            if (isHead && !lines[i].contains(" = ") && !lines[i].contains(";")) {
                int indent = lines[i].length() - lines[i].stripLeading().length();
                int end = i;
                while (end < lines.length - 1 && !lines[end].equals(" ".repeat(indent) + "}")) {
                    end++;
                }
                Due.is("short: " + lines[i].strip(), end - i <= 40 ? 1 : 0, 1);
            }
        }
    }
}
