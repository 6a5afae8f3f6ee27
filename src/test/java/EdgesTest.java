import java.io.IOException;
import java.nio.file.Files;
import java.nio.file.Path;
import java.util.ArrayList;
import java.util.Comparator;
import java.util.List;
import java.util.Map;
import java.util.TreeMap;

/**
 * Every sentence of the document has a test that quotes it: each one under "Terms", and each one of
 * the promises, with the ranges of their arguments and what they throw.
 */
public final class EdgesTest {
    /** What names no case: headings, and how the document and the interface are written. */
    private static final List<String> WITHOUT_A_CASE = List.of("All values are integers, unless something else is said",
            "The sound", "Foretelling", "Weights", "Bits", "Letters", "Text", "Undo", "Exceptions");

    public static void main(String[] args) throws IOException {
        SoundEdges.tell();
        ForetellingEdges.tell();
        BitsEdges.tell();
        LetterEdges.tell();
        TextEdges.tell();
        KeepingEdges.tell();
        String document = System.getProperty("document", "../shared/DOC.md");
        if (Files.isReadable(Path.of(document))) {
            compare(sections(Files.readString(Path.of(document))));
        } else {
            System.out.println("EdgesTest: there is no " + document + " to compare the quotes with");
        }
        System.out.println("EdgesTest: " + Edge.quotes().size() + " tests of sentences");
        Checks.end("EdgesTest");
    }

    private static void compare(Map<Integer, String> sections) {
        Checks.due("promises in the document", sections.size() - 1, 58);
        for (Edge.Quote quote : Edge.quotes()) {
            boolean stands = sections.getOrDefault(quote.promise(), "").contains(quote.sentence())
                    || sections.get(Edge.TERMS).contains(quote.sentence());
            Checks.due("promise " + quote.promise() + " has: " + quote.sentence(), stands, true);
        }
        for (Map.Entry<Integer, String> section : sections.entrySet()) {
            boolean several = section.getValue().split("\nThrows ").length > 2;
            boolean ordered = Edge.quotes().contains(new Edge.Quote(section.getKey(), Edge.FIRST_OF_SEVERAL));
            Checks.due("promise " + section.getKey() + " tells which exception is first", ordered, several || section.getKey() == Edge.TERMS);
            for (String words : unquoted(section.getKey(), section.getValue())) {
                Checks.due("promise " + section.getKey() + ", no test quotes: " + words, false, true);
            }
        }
    }

    /** What is left of a section without the words that are quoted for it. */
    private static List<String> unquoted(int promise, String section) {
        List<Edge.Quote> quotes = new ArrayList<>(Edge.quotes());
        quotes.sort(Comparator.comparing((Edge.Quote quote) -> -quote.sentence().length()));
        // signatures, which FaceTest compares, and headings of groups of calls
        String left = section.replaceAll("(?m)^`[^`]*\\)[^`]*`: ", "|").replaceAll("(?m)^Ahead of the calls .*$", "|");
        for (Edge.Quote quote : quotes) {
            if (quote.promise() == promise) {
                left = left.replace(quote.sentence(), "|");
            }
        }
        List<String> words = new ArrayList<>();
        for (String part : left.split("[|\n]|(?<=\\.) ")) {
            String trimmed = part.replaceAll("^[-,;:. ]+|[,;:. ]+$", "");
            if (!trimmed.isEmpty() && !WITHOUT_A_CASE.contains(trimmed)) {
                words.add(trimmed);
            }
        }
        return words;
    }

    /** The text of each promise by its number, and of the terms by 0. */
    private static Map<Integer, String> sections(String document) {
        Map<Integer, String> sections = new TreeMap<>();
        for (String section : document.split("(?m)^## ")) {
            String body = section.substring(section.indexOf('\n') + 1);
            if (section.startsWith("Terms")) {
                sections.put(Edge.TERMS, body);
            } else if (section.startsWith("Promise ")) {
                int number = Integer.parseInt(section.substring(8, section.indexOf(':')));
                sections.put(number, body);
            }
        }
        return sections;
    }
}
