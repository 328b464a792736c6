import java.io.IOException;
import java.io.UncheckedIOException;
import java.nio.charset.StandardCharsets;
import java.nio.file.Files;
import java.nio.file.Path;
import java.util.ArrayList;
import java.util.HashMap;
import java.util.HashSet;
import java.util.List;
import java.util.Map;
import java.util.Set;

/** The document, in the pieces that tests quote, so that no sentence of it is left without a test. */
final class Doc {
    private static final int TERMS = 0;
    private static final int PROMISES = 26;
    private static final String ENDS = "[.;:] |[.;]$|, or |, and |, (?=\\d+ )";

    private static final Map<Integer, String> SECTIONS = new HashMap<>();
    private static final Map<Integer, Set<String>> QUOTES = new HashMap<>();

    private Doc() {
    }

    /** Notes a quote; answers whether it stands under the promise, or under the terms. */
    static boolean quote(int promise, String words) {
        if (SECTIONS.isEmpty()) {
            read();
        }
        for (int section : new int[] {promise, TERMS}) {
            if (SECTIONS.get(section).contains(words)) {
                QUOTES.get(section).add(words);
                return true;
            }
        }
        return false;
    }

    /** The pieces that no test has quoted, each with its promise ahead of it (0: the terms). */
    static List<String> unquoted() {
        List<String> left = new ArrayList<>();
        for (int section = TERMS; section <= PROMISES; section++) {
            for (String line : SECTIONS.get(section).split("\n")) {
                for (String piece : line.replaceFirst("^`[^`]*\\(.*?\\)`: ", "").replaceFirst("^- ", "").split(ENDS)) {
                    if (!isQuoted(section, piece)) {
                        left.add(section + ": " + piece);
                    }
                }
            }
        }
        return left;
    }

    private static boolean isQuoted(int section, String piece) {
        return piece.isBlank() || QUOTES.get(section).stream().anyMatch(q -> q.contains(piece) || piece.contains(q));
    }

    private static void read() {
        String text;
        try {
            text = Files.readString(Path.of("../shared/DOC.md"), StandardCharsets.UTF_8);
        } catch (IOException missing) {
            throw new UncheckedIOException(missing);
        }
        String terms = between(text, "\n## Terms\n", "\n## Promise 1:");
        put(TERMS, between(terms, "", "\nAhead of the calls").replaceAll("(?m)^[A-Z, ]+$", ""));
        for (int promise = 1; promise <= PROMISES; promise++) {
            String section = between(text, "\n## Promise " + promise + ":", "\n## ");
            put(promise, section.substring(section.indexOf('\n')));
        }
    }

    private static void put(int section, String text) {
        SECTIONS.put(section, text);
        QUOTES.put(section, new HashSet<>());
    }

    private static String between(String text, String head, String tail) {
        int from = text.indexOf(head) + head.length();
        int to = text.indexOf(tail, from);
        return text.substring(from, to < 0 ? text.length() : to);
    }
}
