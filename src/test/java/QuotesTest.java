import java.nio.file.DirectoryStream;
import java.nio.file.Files;
import java.nio.file.Path;
import java.util.ArrayList;
import java.util.Arrays;
import java.util.List;
import java.util.regex.Matcher;
import java.util.regex.Pattern;

/**
 * That nothing of the document is without a test: each word of its Terms and of its promises stands in a sentence that some
 * test is of, says(".."). The calls as they are written there are those of FormTest.
 */
public final class QuotesTest extends Check {
    private static final String PART = "\"((?:[^\"\\\\]|\\\\.)*)\"";
    private static final Pattern QUOTE = Pattern.compile("\\bsays\\(\\s*(" + PART + "(?:\\s*\\+\\s*" + PART + ")*)\\s*\\)");

    /** Headings, signs of blocks, and calls, which no test needs to quote. */
    private static final Pattern BESIDE = Pattern.compile("## Terms|## Promise \\d+: (?:A new object|\\w+)|```(?:text)?|==== \\d\\."
            + "|`\\w+(?: \\w+)?\\([^`]*`:");

    private QuotesTest() {
    }

    public static void main(String[] args) throws Exception {
        label = "quotes";
        String doc = text(DOC).replaceAll("\\s+", " ");
        int first = doc.indexOf("## Terms");
        int last = doc.indexOf("## Not promised");
        due("the document has Terms, and an end of promises", 0 <= first && first < last, true);
        boolean[] quoted = new boolean[doc.length()];
        List<String> quotes = quotes();
        due("there are quotes", quotes.size() > 53, true);
        for (String quote : quotes) {
            for (int at = doc.indexOf(quote); at >= 0; at = doc.indexOf(quote, at + 1)) {
                Arrays.fill(quoted, at, at + quote.length(), true);
            }
        }
        Matcher beside = BESIDE.matcher(doc);
        while (beside.find()) {
            Arrays.fill(quoted, beside.start(), beside.end(), true);
        }
        for (int at = first; at < last; at++) {
            if (!quoted[at] && Character.isLetterOrDigit(doc.charAt(at))) {
                int end = at;
                while (end < last && !quoted[end]) {
                    end++;
                }
                due("a test of \"" + doc.substring(at, end) + "\"", false, true);
                at = end;
            }
        }
        end("QuotesTest");
    }

    private static List<String> quotes() throws Exception {
        List<String> quotes = new ArrayList<>();
        try (DirectoryStream<Path> files = Files.newDirectoryStream(TESTS, "*Test.java")) {
            for (Path file : files) {
                Matcher said = QUOTE.matcher(text(file));
                while (said.find()) {
                    quotes.add(joined(said.group(1)));
                }
            }
        }
        return quotes;
    }

    private static String joined(String parts) {
        StringBuilder s = new StringBuilder();
        Matcher part = Pattern.compile(PART).matcher(parts);
        while (part.find()) {
            s.append(part.group(1).replaceAll("\\\\(.)", "$1"));
        }
        return s.toString();
    }
}
