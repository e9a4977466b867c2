import java.io.IOException;
import java.io.UncheckedIOException;
import java.nio.file.Files;
import java.nio.file.Path;
import java.util.BitSet;
import java.util.LinkedHashMap;
import java.util.Map;

/**
 * The document's own words. A test quotes the sentence that it stands for; at the end it is told which words of 'Terms'
 * and of the promises no test has quoted. Run from the project's folder.
 */
final class Doc {
    private static final Path DOCUMENT = Path.of("../shared/DOC.md");
    private static final Map<String, String> TEXTS = read();
    private static final Map<String, BitSet> QUOTED = new LinkedHashMap<>();

    private Doc() { }

    static void terms(String... sentences) {
        quote("Terms", sentences);
    }

    static void promise(int number, String... sentences) {
        quote("Promise " + number, sentences);
    }

    private static void quote(String section, String... sentences) {
        Check.about(section + ", '" + String.join(" .. ", sentences) + "'");
        for (String sentence : sentences) {
            String text = TEXTS.getOrDefault(section, "");
            int place = text.indexOf(sentence);
            Check.holds("the document says '" + sentence + "' once in " + section, place >= 0 && text.indexOf(sentence, place + 1) < 0);
            if (place >= 0) QUOTED.computeIfAbsent(section, s -> new BitSet()).set(place, place + sentence.length());
        }
    }

    /** No word of 'Terms' or of a promise is without a test that quotes it. */
    static void everySentenceIsQuoted() {
        Check.about("");
        Check.due("sections with promises", TEXTS.keySet().stream().filter(s -> s.startsWith("Promise ")).count(), 40);
        for (Map.Entry<String, String> section : TEXTS.entrySet()) {
            if (section.getKey().equals("Terms") || section.getKey().startsWith("Promise ")) tellUnquoted(section.getKey(), section.getValue());
        }
    }

    private static void tellUnquoted(String section, String text) {
        BitSet quoted = QUOTED.getOrDefault(section, new BitSet());
        for (int from = quoted.nextClearBit(0); from < text.length(); from = quoted.nextClearBit(from)) {
            int to = quoted.nextSetBit(from) < 0 ? text.length() : quoted.nextSetBit(from);
            String words = text.substring(from, to);
            Check.holds("no test quotes, of " + section + ": " + words, !words.matches(".*\\w.*"));
            from = to;
        }
    }

    private static Map<String, String> read() {
        Map<String, String> texts = new LinkedHashMap<>();
        try {
            for (String part : Files.readString(DOCUMENT).split("(?m)^## ")) {
                String[] headAndBody = part.split("\n", 2);
                String name = headAndBody[0].replaceAll("^(Promise \\d+):.*", "$1").trim();
                if (headAndBody.length == 2) texts.put(name, plain(headAndBody[1]));
            }
        } catch (IOException e) {
            throw new UncheckedIOException(e);
        }
        return texts;
    }

    // Without fences, headings' rules and the signature that a promise begins with; blanks are one blank.
    private static String plain(String body) {
        return body.replaceAll("(?m)^```.*$", "").replaceAll("\\s+", " ").trim().replaceAll("^`[^`]*`: ", "");
    }
}
