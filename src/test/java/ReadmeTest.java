import java.io.IOException;
import java.lang.reflect.Method;
import java.lang.reflect.Modifier;
import java.nio.file.Files;
import java.nio.file.Path;
import java.util.List;
import java.util.regex.Matcher;
import java.util.regex.Pattern;
import java.util.stream.Stream;

/** README.md says what is so: its example's answers, its way to put a text, all calls, all errors and all tests. */
public final class ReadmeTest {
    private static final Path TESTS = Path.of("src/test/java");
    private static final Pattern CALL = Pattern.compile("(?m)^x\\.(\\w+)\\(([^)]*)\\); *// (-?\\d+|[A-Z_]+):");

    public static void main(String[] args) throws IOException, ReflectiveOperationException {
        String readme = Files.readString(Path.of("README.md"));
        theExample(readme);
        theWayToPutAText(readme);
        allCallsAndErrors(readme);
        allTests(readme);
        Check.end();
    }

    private static void theExample(String readme) throws ReflectiveOperationException {
        int from = readme.indexOf("PrintRacks x = new PrintRacks();");
        String example = readme.substring(from, readme.indexOf("```", from));
        PrintRacks x = new PrintRacks();
        int calls = 0;
        Matcher matcher = CALL.matcher(example);
        while (matcher.find()) {
            Object answer = answerOf(x, matcher.group(1), matcher.group(2));
            Check.due(matcher.group().trim(), (Integer) answer, number(matcher.group(3)));
            calls++;
        }
        Check.due("calls with an answer in the example", calls, example.strip().split("\n").length - 1);
    }

    private static Object answerOf(PrintRacks x, String name, String arguments) throws ReflectiveOperationException {
        String[] texts = arguments.isEmpty() ? new String[0] : arguments.split(", ");
        for (Method method : PrintRacks.class.getMethods()) {
            if (method.getName().equals(name) && method.getParameterCount() == texts.length) {
                Object[] values = new Object[texts.length];
                for (int i = 0; i < texts.length; i++) {
                    long value = number(texts[i]);
                    values[i] = method.getParameterTypes()[i] == long.class ? (Object) value : (Object) (int) value;
                }
                return method.invoke(x, values);
            }
        }
        throw new NoSuchMethodException(name + "(" + arguments + ")");
    }

    /** A number, or the constant of that name. */
    private static long number(String text) throws ReflectiveOperationException {
        if (text.matches("(PrintRacks\\.)?[A-Z_]+")) {
            return PrintRacks.class.getField(text.replace("PrintRacks.", "")).getInt(null);
        }
        return Long.decode(text.replaceFirst("L$", ""));
    }

    // README.md shows this method as it stands here.
    static void write(PrintRacks x, String text) {
        for (int from = 0; from < text.length(); from += 8) {
            long characters = 0;
            for (int i = from; i < text.length() && i < from + 8; i++) {
                characters = characters << 8 | text.charAt(i);
            }
            x.put(characters);
        }
    }

    private static void theWayToPutAText(String readme) throws IOException {
        int from = readme.indexOf("static void write(");
        String shown = readme.substring(from, readme.indexOf("```", from)).strip();
        String source = Files.readString(TESTS.resolve("ReadmeTest.java"));
        Check.isTrue("what README.md shows stands here", source.contains("    " + shown.replace("\n", "\n    ")));
        for (String text : List.of("p1s5n6", "p2s4n20d", "p2s4n20d3", "p2s4n20d300;p1s5n6")) {
            PrintRacks x = new PrintRacks();
            write(x, text);
            Check.due("the length of the pad", x.count(18), text.length());
            if (!text.endsWith("d")) {
                Check.due("the jobs", x.read(), text.split(";").length);
                Check.dueJobs("write(" + text + ")", x, Check.jobs(Check.board(text)));
            }
        }
        Check.isTrue("it tells the text", readme.contains("`p2s4n20d300;p1s5n6`"));
    }

    private static void allCallsAndErrors(String readme) {
        for (Method method : PrintRacks.class.getDeclaredMethods()) {
            if (Modifier.isPublic(method.getModifiers())) {
                String row = "(?s).*\\| `" + method.getName() + "\\((\\w+(, \\w+){"
                        + Math.max(0, method.getParameterCount() - 1) + "})?\\)` \\| \\w.*";
                Check.isTrue("it tells " + method.getName(), readme.matches(row));
            }
        }
        for (String error : List.of("NO_SUCH` (-1)", "BAD_VALUE` (-2)", "BAD_TEXT` (-3)", "TOO_MANY` (-4)",
                "NOT_POSSIBLE` (-5)", "NONE` (-6)")) {
            Check.isTrue("it tells " + error, readme.replaceAll("\\s+", " ").contains("`" + error));
        }
    }

    private static void allTests(String readme) throws IOException {
        Check.isTrue("it tells .ci/run", readme.contains("\n    .ci/run\n"));
        int told = 0;
        try (Stream<Path> files = Files.list(TESTS)) {
            for (Path file : files.sorted().toList()) {
                String name = file.getFileName().toString().replace(".java", "");
                if (name.matches("\\w+(Test|Sentences)")) {
                    Check.isTrue("it tells " + name, readme.contains("\n| `" + name + "` | "));
                    told++;
                }
            }
        }
        Matcher matcher = Pattern.compile("(?m)^\\| `\\w+(Test|Sentences)` \\| ").matcher(readme);
        Check.due("tests that it tells", matcher.results().count(), told);
    }
}
