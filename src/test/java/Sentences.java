import java.nio.file.Files;
import java.nio.file.Path;
import java.util.ArrayList;
import java.util.BitSet;
import java.util.List;
import java.util.regex.Matcher;
import java.util.regex.Pattern;

/**
 * The sentences of the document, each with a test of its own. A sentence is quoted, so that one that is no longer in
 * the document is seen, and so is one with a number or a refusal that no test quotes.
 */
final class Sentences extends Bench {
    private static final int PROMISES = 29;
    private static final Pattern BOUND = Pattern.compile("\\b(BAD|STATE|FULL|NULL|PLACE|KIND|SIZE|STORE|NONE|\\d+)\\b");
    private final List<String> parts = new ArrayList<>();
    private final List<BitSet> quoted = new ArrayList<>();
    private int part = 0;

    Sentences() throws Exception {
        String doc = Files.readString(Path.of("../shared/DOC.md"));
        parts.add(between(doc, "## Terms", "## Promise 1:").replaceAll("=+ \\d ", "").replaceAll("Ahead of the calls.*", ""));
        for (int n = 1; n <= PROMISES; n++) {
            String next = n == PROMISES ? "## Not promised" : "## Promise " + (n + 1) + ":";
            // The heading and the call's face tell no bound.
            parts.add(between(doc, "## Promise " + n + ":", next).replaceFirst("^[^`]*`[^`]*`:", ""));
        }
        for (int n = 0; n <= PROMISES; n++) {
            parts.set(n, parts.get(n).replaceAll("```text|```", " ").replaceAll("\\s+", " "));
            quoted.add(new BitSet());
        }
    }

    private static String between(String doc, String from, String to) {
        int start = doc.indexOf(from), end = doc.indexOf(to);
        return start < 0 || end < start ? "" : doc.substring(start + from.length(), end);
    }

    /** What follows is of this promise; 0: of the terms. */
    void ofPromise(int n) {
        part = n;
    }

    void test(String quote, Runnable looks) {
        about((part == 0 ? "terms" : "promise " + part) + ", '" + quote + "'");
        int at = parts.get(part).indexOf(quote);
        while (at >= 0 && quoted.get(part).get(at)) {
            at = parts.get(part).indexOf(quote, at + 1);
        }
        holds("the document does not say so", at >= 0);
        if (at >= 0) {
            quoted.get(part).set(at, at + quote.length());
        }
        int before = looked();
        looks.run();
        holds("nothing is looked at", looked() > before);
    }

    void allBoundsAreQuoted() {
        for (int n = 0; n <= PROMISES; n++) {
            about(n == 0 ? "terms" : "promise " + n);
            holds("is not in the document", !parts.get(n).isBlank());
            Matcher m = BOUND.matcher(parts.get(n));
            while (m.find()) {
                String around = parts.get(n).substring(Math.max(0, m.start() - 30), Math.min(parts.get(n).length(), m.end() + 30));
                holds("no test quotes '" + around + "'", quoted.get(n).get(m.start()));
            }
        }
    }
}
