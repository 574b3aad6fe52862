import java.io.IOException;
import java.nio.file.Files;
import java.nio.file.Path;
import java.util.ArrayList;
import java.util.Arrays;
import java.util.List;
import java.util.Set;
import java.util.regex.Matcher;
import java.util.regex.Pattern;
import java.util.stream.Stream;

/** Each sentence of the document, from "Terms" to the last promise, is quoted by a test; each quoted one stands there. */
final class SentencesTest {
    private static final Path DOCUMENT = Path.of("../shared/DOC.md");
    private static final Path TESTS = Path.of("src/test/java");
    private static final Pattern QUOTE = Pattern.compile("due\\.of\\(\"([^\"]*)\"\\)");
    /** What may be left between two quotes: it says nothing without them. */
    private static final Set<String> JOINTS = Set.of(
        "and", "or", "true", "is not as said", "ROWS", "TYPES are 0 to 7", "The constants", "THE CHECKER", "A SUBROUTINE, at PLACE b");
    private static final Due due = new Due();

    public static void main(String[] args) throws IOException {
        if (!Files.exists(DOCUMENT)) {
            System.out.println("there is no " + DOCUMENT + " to look at");
            return;
        }
        String whole = squeezed(Files.readString(DOCUMENT));
        String promised = squeezed(promises(Files.readString(DOCUMENT)));
        boolean[] quoted = new boolean[promised.length()];
        for (String quote : quotes()) {
            due.yes("the document says [" + quote + "]", whole.contains(squeezed(quote)));
            mark(promised, squeezed(quote), quoted);
        }
        for (String piece : pieces(promised, quoted)) {
            due.yes("a test quotes [" + piece + "]", JOINTS.contains(piece));
        }
        due.end();
    }

    /** What is promised, without headings, fences, and the signature that a promise begins with. */
    private static String promises(String document) {
        int from = document.indexOf("## Terms");
        int to = document.indexOf("## Not promised");
        return document.substring(from, to).replaceAll("(?m)^(##|```).*$", " ").replaceAll("(?m)^`[^`]*\\)`:", " ");
    }

    private static String squeezed(String text) {
        return text.replaceAll("\\s+", " ").trim();
    }

    private static List<String> quotes() throws IOException {
        List<Path> files;
        try (Stream<Path> all = Files.list(TESTS)) {
            files = all.filter(file -> file.toString().endsWith("Test.java")).sorted().toList();
        }
        List<String> found = new ArrayList<>();
        for (Path file : files) {
            Matcher matcher = QUOTE.matcher(Files.readString(file));
            while (matcher.find()) {
                found.add(matcher.group(1));
            }
        }
        return found;
    }

    private static void mark(String text, String quote, boolean[] quoted) {
        for (int i = text.indexOf(quote); i >= 0; i = text.indexOf(quote, i + 1)) {
            Arrays.fill(quoted, i, i + quote.length(), true);
        }
    }

    /** What no quote covers, without the marks between sentences. */
    private static List<String> pieces(String text, boolean[] quoted) {
        List<String> found = new ArrayList<>();
        StringBuilder piece = new StringBuilder();
        for (int i = 0; i <= text.length(); i++) {
            if (i < text.length() && !quoted[i]) {
                piece.append(text.charAt(i));
                continue;
            }
            String words = piece.toString().replaceAll("^[^A-Za-z0-9]+|[^A-Za-z0-9]+$", "");
            if (!words.isEmpty()) {
                found.add(words);
            }
            piece.setLength(0);
        }
        return found;
    }
}
