import java.util.ArrayList;
import java.util.Arrays;
import java.util.List;

/** The document's terms and promises, and which of their words have been quoted. */
final class Document {
    private static final int PROMISES = 36;

    /** Part 0 is the beginning and the terms, part n is promise n without its signature. */
    private final String[] parts = new String[PROMISES + 1];
    private final boolean[][] quoted = new boolean[PROMISES + 1][];

    Document(String text) {
        parts[0] = plain(between(text, "An object is used", "## The public face")) + " "
                + plain(between(text, "## Terms", "## Promise 1:").substring("## Terms".length()));
        for (int promise = 1; promise <= PROMISES; promise++) {
            String next = promise == PROMISES ? "## Not promised" : "## Promise " + (promise + 1) + ":";
            String section = between(text, "## Promise " + promise + ":", next);
            parts[promise] = plain(section.substring(section.indexOf("`: ") + 3));
        }
        for (int part = 0; part <= PROMISES; part++) {
            quoted[part] = new boolean[parts[part].length()];
        }
    }

    private static String between(String text, String from, String to) {
        int begin = text.indexOf(from);
        int end = text.indexOf(to, begin + 1);
        if (begin < 0 || end < 0) {
            throw new IllegalStateException("the document has no '" + from + "' ahead of '" + to + "'");
        }
        return text.substring(begin, end);
    }

    /** One line, without the marks that set off code and parts. */
    private static String plain(String text) {
        return text.replace("```text", " ").replace("`", " ").replaceAll("==== I+\\.", " ")
                .replaceAll("\\s+", " ").trim();
    }

    /** Whether the words stand in the terms or under one of the promises. */
    boolean quote(int[] promises, String words) {
        String sought = plain(words);
        boolean found = quoteIn(0, sought);
        for (int promise : promises) {
            found |= quoteIn(promise, sought);
        }
        return found;
    }

    private boolean quoteIn(int part, String words) {
        int at = parts[part].indexOf(words);
        if (at >= 0) {
            Arrays.fill(quoted[part], at, at + words.length(), true);
        }
        return at >= 0;
    }

    /** The pieces with a letter or a figure in them that nobody has quoted. */
    List<String> unquoted() {
        List<String> pieces = new ArrayList<>();
        for (int part = 0; part <= PROMISES; part++) {
            StringBuilder piece = new StringBuilder();
            for (int k = 0; k <= parts[part].length(); k++) {
                if (k < parts[part].length() && !quoted[part][k]) {
                    piece.append(parts[part].charAt(k));
                } else {
                    if (piece.chars().anyMatch(Character::isLetterOrDigit)) {
                        pieces.add((part == 0 ? "terms: " : "promise " + part + ": ") + piece);
                    }
                    piece.setLength(0);
                }
            }
        }
        return pieces;
    }
}
