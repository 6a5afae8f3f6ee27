import java.nio.file.Files;
import java.nio.file.Path;
import java.util.List;
import java.util.Set;
import java.util.TreeSet;
import java.util.regex.Matcher;
import java.util.regex.Pattern;

/** Rules of ../shared/LANGUAGE.md that a look at the program's text can tell; the others are for readers. */
public final class LanguageTest {
    private static final String[] FORBIDDEN = {"import", "package", "catch", "try", "finally", "synchronized",
        "assert", "protected", "native", "volatile", "transient", "yield", "->", "::", "Exact\\(", "Double\\.",
        "Float\\.", "Object", "equals", "hashCode", "toString", "getClass", "instanceof", "@"};
    private static final Set<String> LIBRARY = Set.of("Math.abs", "Math.max", "Math.min", "Math.floorDiv",
            "System.arraycopy");
    private static final List<String> THROWN = List.of("IndexOutOfBoundsException", "IllegalArgumentException",
            "IllegalStateException");

    public static void main(String[] args) throws Exception {
        String path = System.getProperty("source", "src/main/java/CaveEchoes.java");
        String source = Files.readString(Path.of(path));
        String code = bare(source);
        words(code);
        library(code);
        exceptions(code);
        sizes(source, code);
        Checks.end("LanguageTest");
    }

    /** The code without its comments, texts and signs. */
    private static String bare(String source) {
        return source.replaceAll("(?s)/\\*.*?\\*/", "").replaceAll("//[^\n]*", "")
                .replaceAll("\"[^\"\n]*\"", "\"\"").replaceAll("'[^'\n]*'", "0");
    }

    private static void words(String code) {
        for (String word : FORBIDDEN) {
            String bound = Character.isLetter(word.charAt(0)) ? "\\b" : "";
            Checks.due("uses " + word, Pattern.compile(bound + word).matcher(code).find(), false);
        }
    }

    private static void library(String code) {
        Matcher used = Pattern.compile("\\b([A-Z][a-z]\\w*)\\.(\\w+)").matcher(code);
        Set<String> others = new TreeSet<>();
        while (used.find()) {
            if (!LIBRARY.contains(used.group())) {
                others.add(used.group());
            }
        }
        Checks.due("the library beyond the rules", others, Set.of());
    }

    private static void exceptions(String code) {
        Matcher thrown = Pattern.compile("throw\\s+([^;]*);").matcher(code);
        int throwsFound = 0;
        while (thrown.find()) {
            throwsFound++;
            String name = thrown.group(1).replace("new ", "").replaceAll("\\(\"\"\\)", "");
            Checks.due(name + " is one of the document's", THROWN.contains(name), true);
        }
        Checks.due("there are throws", throwsFound > 0, true);
    }

    private static void sizes(String source, String code) {
        Matcher classes = Pattern.compile("\\b(class|enum|interface|record)\\s+\\w+").matcher(code);
        int count = 0;
        while (classes.find()) {
            count++;
        }
        Checks.due("at most twelve classes", count <= 12, true);
        int length = 0;
        int longest = 0;
        for (String line : source.split("\n")) {
            Checks.due("signs from 1 to 127", line.chars().allMatch(sign -> sign > 0 && sign < 128), true);
            boolean head = line.matches("(    |        )\\S.*\\) .*\\{") && !line.trim().matches("(if|for|while|switch).*");
            boolean end = line.matches("    \\}|        \\}");
            length = head ? 1 : length > 0 ? length + 1 : 0;
            longest = Math.max(longest, length);
            length = end && line.startsWith("    }") ? 0 : length;
        }
        Checks.due("methods of at most sixty lines, not " + longest, longest <= 60, true);
    }
}
