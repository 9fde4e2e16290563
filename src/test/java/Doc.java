import java.io.IOException;
import java.nio.file.Files;
import java.nio.file.Path;
import java.util.ArrayList;
import java.util.BitSet;
import java.util.LinkedHashMap;
import java.util.List;
import java.util.Map;

/**
 * The document's own words. A test says which sentence it is for; at the end every word of the
 * terms, the four parts and the promises must have been said, and each time something was asked.
 */
final class Doc {
    private static final Path FILE = Path.of("../shared/DOC.md");
    private static final Map<String, String> TEXTS = new LinkedHashMap<>();
    private static final Map<String, BitSet> SAID = new LinkedHashMap<>();

    private static String latest = "";
    private static int askedBefore = -1;

    private Doc() {
    }

    /** Opens a test: what is asked from now on is asked for these words of a part of the document. */
    static void says(String part, String words) {
        close();
        latest = part + ": " + words;
        mark(part, words);
        askedBefore = Due.asked();
    }

    static void says(int promise, String words) {
        says("Promise " + promise, words);
    }

    /** The open test is for these words of a promise, too: they only name what a part has told. */
    static void names(int promise, String words) {
        mark("Promise " + promise, words);
        askedBefore = Due.asked();
    }

    private static void mark(String part, String words) {
        if (TEXTS.isEmpty()) {
            read();
        }
        String text = TEXTS.getOrDefault(part, "");
        int at = text.indexOf(words);
        Due.due("the document says '" + words + "' in " + part, at >= 0 ? 1 : 0, 1);
        for (; at >= 0; at = text.indexOf(words, at + 1)) {
            SAID.get(part).set(at, at + words.length());
        }
    }

    private static void close() {
        if (askedBefore >= 0) {
            Due.due("something is asked for '" + latest + "'", Due.asked() > askedBefore ? 1 : 0, 1);
        }
    }

    /** Tells the words that no test is for. */
    static void end() {
        close();
        for (String part : TEXTS.keySet()) {
            for (String words : unsaid(TEXTS.get(part), SAID.get(part))) {
                Due.due("a test for the words '" + words + "' of " + part, 0, 1);
            }
        }
    }

    private static List<String> unsaid(String text, BitSet said) {
        List<String> all = new ArrayList<>();
        for (int from = said.nextClearBit(0); from < text.length();) {
            int to = said.nextSetBit(from) < 0 ? text.length() : said.nextSetBit(from);
            String words = text.substring(from, to);
            if (words.chars().anyMatch(Character::isLetterOrDigit)) {
                all.add(words.trim());
            }
            from = said.nextClearBit(to);
        }
        return all;
    }

    private static void read() {
        String part = "";
        List<String> lines;
        try {
            lines = Files.readAllLines(FILE);
        } catch (IOException e) {
            throw new IllegalStateException("no document at " + FILE, e);
        }
        for (String line : lines) {
            String words = line.trim();
            if (words.startsWith("## ") || words.startsWith("Ahead of the calls")) {
                part = partOf(words);
                continue;
            }
            if (words.startsWith("======== ")) {
                part = "Part " + words.charAt(9);
                words = words.substring(10).trim();
            }
            if (words.startsWith("An object is used for at most")) {
                part = "What it is";
            }
            if (!part.isEmpty() && !words.isEmpty() && !words.startsWith("```")) {
                TEXTS.merge(part, words.replaceFirst("^`[^`]*`: ", ""), (a, b) -> a + " " + b);
                SAID.putIfAbsent(part, new BitSet());
            }
        }
    }

    /** The part that a heading begins; none for what promises nothing. */
    private static String partOf(String heading) {
        if (heading.startsWith("## Promise ")) {
            return heading.substring(3, heading.indexOf(':'));
        }
        return heading.equals("## Terms") ? "Terms" : "";
    }
}
