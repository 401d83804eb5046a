import java.io.IOException;
import java.nio.file.Files;
import java.nio.file.Path;
import java.util.regex.Matcher;
import java.util.regex.Pattern;

/** Some of the rules of ../shared/LANGUAGE.md that a look at the text of the program can tell. */
public final class LanguageTest {
    private static final String[] FORBIDDEN = {"\\b(throw|throws|try|catch|synchronized|assert|finally)\\b",
        "\\b(import|package|protected|native|volatile|transient|yield|var)\\b", "->", "::", "@",
        "\\b(Object|Math\\.\\w+Exact|System\\.(?!arraycopy)\\w+|Thread|Runtime|Random)\\b",
        "\\.(hashCode|getClass)\\b", "\\bstatic\\s*\\{", "\\bwhile\\s*\\(\\s*true",
        "\\bfor\\s*\\(\\s*;", "[^\\x00-\\x7F]", "\\bclass\\b(?<!(public|private static) final class)"};
    private static final String HEAD_OF_A_METHOD = "( {4}| {8})(?!for|if|while|switch)\\w.*\\) \\{";
    private static final int MOST_LINES_OF_A_METHOD = 60;

    public static void main(String[] args) throws IOException {
        String source = Files.readString(Path.of("src/main/java/PrintRacks.java"));
        String code = source.replaceAll("(?s)/\\*.*?\\*/", "").replaceAll("//[^\n]*", "");
        for (String each : FORBIDDEN) {
            Matcher matcher = Pattern.compile(each).matcher(code);
            Check.isTrue("the program does without " + each, !matcher.find());
        }
        newOnlyInConstructors(code);
        shortMethods(code);
        Check.end();
    }

    // What a call makes counts against the room of its run; so none makes anything.
    private static void newOnlyInConstructors(String code) {
        String inside = "";
        for (String line : code.split("\n")) {
            if (line.matches(HEAD_OF_A_METHOD)) {
                inside = line.trim();
            }
            if (line.matches(".*\\bnew\\b.*")) {
                boolean isField = line.trim().startsWith("final") || line.trim().startsWith("private final");
                boolean inConstructor = inside.matches("(public )?[A-Z]\\w+\\(\\) \\{");
                Check.isTrue("no new in a call: " + line.trim(), isField || inConstructor);
            }
        }
    }

    private static void shortMethods(String code) {
        int lines = 0;
        for (String line : code.split("\n")) {
            lines = line.matches(HEAD_OF_A_METHOD) ? 0 : lines + 1;
            if (line.matches("( {4}| {8})\\}")) {
                Check.isTrue("a method of " + lines + " lines", lines <= MOST_LINES_OF_A_METHOD);
            }
        }
    }
}
