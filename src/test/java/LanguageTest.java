import java.nio.file.Files;
import java.nio.file.Path;
import java.util.regex.Matcher;
import java.util.regex.Pattern;

/** Those rules of LANGUAGE.md that can be seen from the program's text by simple means; run from the project's folder. */
public final class LanguageTest {
    private static final String[] NEVER = {
        "\\b(import|package|throw|throws|try|catch|finally|synchronized|assert|native|volatile|yield)\\b",
        "\\b(equals|hashCode|toString|instanceof)\\b", "->", "::", "\"", "@", "\\bwhile *\\(true\\)", "for *\\(;"};

    public static void main(String[] args) throws Exception {
        String text = Files.readString(Path.of("src/main/java/StrideBanks.java"));
        String code = text.replaceAll("(?s)/\\*.*?\\*/", "").replaceAll("//.*", "");
        for (String pattern : NEVER) {
            Matcher matcher = Pattern.compile(pattern).matcher(code);
            boolean found = matcher.find();
            Due.is("found " + (found ? matcher.group() : pattern), found ? 1 : 0, 0);
        }
        Due.is("signs that are not 1 to 127", text.chars().filter(c -> c < 1 || c > 127).count(), 0);
        methodsAreShort(code);
        Due.end();
    }

    private static void methodsAreShort(String code) {
        int begun = 0;
        String[] lines = code.split("\n");
        for (int i = 0; i < lines.length; i++) {
            if (lines[i].matches(" {4}( {4})?(public|private) .*\\) \\{")) {
                begun = i;
            }
            if (lines[i].matches(" {4}( {4})?\\}")) {
                Due.is("lines to line " + (i + 1) + " above 60", i - begun > 60 && lines[begun].contains(") {") ? 1 : 0, 0);
                begun = i;
            }
        }
    }
}
