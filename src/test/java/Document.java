import java.io.IOException;
import java.nio.file.Files;
import java.nio.file.Path;
import java.util.ArrayList;
import java.util.List;

/** The text of ../shared/DOC.md, by promises (0: the terms), and what of it the tests have quoted. */
final class Document {
    private static final int PROMISES = 21;

    private final String whole;
    private final String[] parts = new String[PROMISES + 1];
    private final boolean[][] quoted = new boolean[PROMISES + 1][];

    Document(Path file) throws IOException {
        String text = Files.readString(file);
        whole = plain(text);
        for (int part = 0; part <= PROMISES; part++) {
            parts[part] = part(text, part == 0 ? "\n## Terms\n" : "\n## Promise " + part + ":");
            quoted[part] = new boolean[parts[part].length()];
        }
    }

    // Headings say nothing of their own (one of them has no mark), and FaceTest is about the methods' heads.
    private static String part(String text, String heading) {
        int from = text.indexOf('\n', text.indexOf(heading) + 1);
        int to = text.indexOf("\n## ", from);
        String part = text.substring(from, to).replaceAll("(?m)^(#.*|Jobs, the board)$", "");
        return plain(part).replaceFirst("^`(int )?\\w+\\([^)]*\\)`: ", "");
    }

    private static String plain(String text) {
        return text.replaceAll("\\s+", " ").trim();
    }

    /** Whether the words stand in the promise, in the terms, or elsewhere in the document; they are quoted then. */
    boolean quote(int promise, String words) {
        for (int part : new int[] {promise, 0}) {
            int from = parts[part].indexOf(words);
            for (int i = from; from >= 0 && i < from + words.length(); i++) {
                quoted[part][i] = true;
            }
            if (from >= 0) {
                return true;
            }
        }
        return whole.contains(words);
    }

    /** What of the terms and of the promises no test has quoted. */
    List<String> unquoted() {
        List<String> rests = new ArrayList<>();
        for (int part = 0; part <= PROMISES; part++) {
            StringBuilder rest = new StringBuilder();
            for (int i = 0; i < parts[part].length(); i++) {
                rest.append(quoted[part][i] ? '\n' : parts[part].charAt(i));
            }
            for (String each : rest.toString().split("\n+")) {
                if (each.matches(".*\\w.*")) {
                    rests.add((part == 0 ? "terms: " : "promise " + part + ": ") + each.trim());
                }
            }
        }
        return rests;
    }
}
