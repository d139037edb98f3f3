import java.io.IOException;
import java.nio.file.DirectoryStream;
import java.nio.file.Files;
import java.nio.file.Path;
import java.util.ArrayList;
import java.util.List;
import java.util.Map;
import java.util.TreeMap;
import java.util.regex.Matcher;
import java.util.regex.Pattern;

/** Each word of the document's terms and promises is quoted by a test of the Edges, and each quote stands in the document. */
public final class SentencesTest {
    private static final Path DOCUMENT = Path.of("../shared/DOC.md");
    private static final Path TESTS = Path.of("src/test/java");
    private static final Pattern QUOTE = Pattern.compile("says\\((\\d+), ((?:\"[^\"]*\"[\\s+]*)+)\\)");
    private static int quotes = 0;
    private static int wrong = 0;

    public static void main(String[] args) throws IOException {
        Map<Integer, String> sections = sections(Files.readString(DOCUMENT));
        Map<Integer, List<String>> quoted = quoted();
        for (int section : sections.keySet()) {
            covered(section, sections.get(section), quoted.getOrDefault(section, List.of()));
        }
        if (sections.size() != 47) wrong("the document has " + (sections.size() - 1) + " promises, not 46");
        System.out.println(quotes + " quotes, " + wrong + " wrong");
        if (wrong != 0) System.exit(1);
    }

    private static void wrong(String what) {
        wrong++;
        System.out.println(what);
    }

    /** The words of each promise by its number, without the line of its call; 0 is all between "Terms" and promise 1. */
    private static Map<Integer, String> sections(String document) {
        Map<Integer, String> sections = new TreeMap<>();
        String terms = document.substring(document.indexOf("## Terms"), document.indexOf("## Promise 1:"));
        sections.put(0, plain(terms.replace("## Terms", "").replace("```text", "").replace("```", "")
            .replaceAll("Ahead of the calls .*?: ---- ", "").replaceAll("(?m)^\\d [a-z ,]+\\.$", "")));
        Matcher promise = Pattern.compile("(?s)## Promise (\\d+): .*?`[^`]*`: (.*?)(?=\\n## )").matcher(document);
        while (promise.find()) sections.put(Integer.parseInt(promise.group(1)), plain(promise.group(2)));
        return sections;
    }

    private static String plain(String words) {
        return words.replaceAll("\\s+", " ").trim();
    }

    private static Map<Integer, List<String>> quoted() throws IOException {
        Map<Integer, List<String>> all = new TreeMap<>();
        try (DirectoryStream<Path> files = Files.newDirectoryStream(TESTS, "Edges*Test.java")) {
            for (Path file : files) {
                Matcher quote = QUOTE.matcher(Files.readString(file));
                while (quote.find()) {
                    String words = quote.group(2).replaceAll("\"\\s*\\+\\s*\"", "").replaceAll("^\"|\"\\s*$", "");
                    all.computeIfAbsent(Integer.parseInt(quote.group(1)), key -> new ArrayList<>()).add(words);
                    quotes++;
                }
            }
        }
        return all;
    }

    private static void covered(int section, String words, List<String> quoted) {
        StringBuilder left = new StringBuilder(words);
        for (String quote : quoted) {
            int at = words.indexOf(quote);
            if (at < 0) wrong("promise " + section + " does not say: " + quote);
            for (int i = at; at >= 0 && i < at + quote.length(); i++) left.setCharAt(i, ' ');
        }
        if (left.chars().anyMatch(Character::isLetterOrDigit)) wrong("promise " + section + ", not tested: " + plain(left.toString()));
    }
}
