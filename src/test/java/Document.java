import java.io.IOException;
import java.nio.file.Files;
import java.nio.file.Path;
import java.util.ArrayList;
import java.util.BitSet;
import java.util.LinkedHashMap;
import java.util.List;
import java.util.Map;

/** The text of ../shared/DOC.md by its sections, and which words of it the tests have quoted. */
final class Document {
    private static final Path PLACE = Path.of("..", "shared", "DOC.md");

    private final Map<String, String> texts = new LinkedHashMap<>();
    private final Map<String, BitSet> quoted = new LinkedHashMap<>();

    /** Without the document its sentences are tested all the same, but the quotes are not compared. */
    private boolean isThere = false;

    static Document read() throws IOException {
        Document document = new Document();
        if (!Files.exists(PLACE)) {
            System.out.println("no " + PLACE + ": quotes are not compared with it");
            return document;
        }
        document.isThere = true;
        for (String part : ("\n" + Files.readString(PLACE)).split("\n## ")) {
            int end = part.indexOf('\n');
            String name = part.substring(0, end).split(":")[0].trim();
            // The document's blocks of text break sentences in two; its lines break them anywhere.
            String text = part.substring(end).replaceAll("(?m)^```.*$", "").replaceAll("\\s+", " ").trim();
            document.texts.put(name, text);
            document.quoted.put(name, new BitSet());
        }
        return document;
    }

    /** Notes that a test holds these words; false if they do not stand just once in that section. */
    boolean quote(String section, String words) {
        if (!isThere) {
            return true;
        }
        String text = texts.getOrDefault(section, "");
        int at = text.indexOf(words);
        if (words.isEmpty() || at < 0 || at != text.lastIndexOf(words)) {
            return false;
        }
        quoted.get(section).set(at, at + words.length());
        return true;
    }

    /** What no test has quoted of a section; the head of a method at its beginning needs no test. */
    List<String> unquoted(String section) {
        String text = texts.getOrDefault(section, "");
        BitSet held = quoted.getOrDefault(section, new BitSet());
        List<String> left = new ArrayList<>();
        int from = text.startsWith("`") ? text.indexOf("`: ") + 3 : 0;
        while (from < text.length()) {
            int begin = held.nextClearBit(from);
            int next = held.nextSetBit(begin);
            int end = next < 0 ? text.length() : Math.min(next, text.length());
            String words = begin < end ? text.substring(begin, end).trim() : "";
            if (!words.isEmpty()) {
                left.add(words);
            }
            from = Math.max(end, begin + 1);
        }
        return left;
    }
}
