import java.io.IOException;
import java.nio.file.DirectoryStream;
import java.nio.file.Files;
import java.nio.file.Path;
import java.util.regex.Matcher;
import java.util.regex.Pattern;

/** The run that README.md shows answers as it says there, and README.md names every call, constant and test. */
public final class ReadmeTest {
    private static final Path README = Path.of("README.md");
    private static final Path DOCUMENT = Path.of("../shared/DOC.md");
    private static final Path TESTS = Path.of("src/test/java");
    private static final Pattern LINE = Pattern.compile("x\\.(\\w+)\\(([-\\d, ]*)\\); +// (-?\\d+) .*");

    public static void main(String[] args) throws IOException {
        String readme = Files.readString(README);
        String document = Files.readString(DOCUMENT);
        run(readme);
        calls(readme, document);
        constants(readme, document);
        tests(readme);
        Checks.end();
    }

    private static void run(String readme) {
        Matcher block = Pattern.compile("(?s)```java\n(.*?)```").matcher(readme);
        Matcher signs = Pattern.compile("String signs = \"([^\"]*)\";").matcher(readme);
        if (!block.find() || !signs.find()) throw new IllegalStateException("README.md shows no run");
        Subject subject = new Subject();
        subject.write(0, signs.group(1));
        int answers = 0;
        for (String line : block.group(1).split("\n")) {
            Matcher call = LINE.matcher(line);
            if (!call.matches()) continue;
            answers++;
            Checks.due("README.md, " + line, subject.call(call.group(1), numbers(call.group(2))), Long.parseLong(call.group(3)));
        }
        long told = block.group(1).lines().filter(line -> line.contains("//")).count();
        Checks.due("lines with an answer that were called", answers, told);
        Checks.due("whether there are such lines", answers > 0 ? 1 : 0, 1);
    }

    private static int[] numbers(String list) {
        if (list.isEmpty()) return new int[0];
        String[] parts = list.split(", ");
        int[] numbers = new int[parts.length];
        for (int i = 0; i < parts.length; i++) numbers[i] = Integer.parseInt(parts[i]);
        return numbers;
    }

    private static void named(String readme, String what) {
        Checks.due("whether README.md names " + what, readme.contains(what) ? 1 : 0, 1);
    }

    private static void calls(String readme, String document) {
        Matcher call = Pattern.compile("    public (?:int|long) (\\w+)\\((.*)\\);").matcher(document);
        while (call.find()) named(readme, "`" + call.group(1) + "(" + call.group(2).replace("int ", "") + ")`");
    }

    private static void constants(String readme, String document) {
        Matcher line = Pattern.compile("public static final int (.*);").matcher(document);
        if (!line.find()) throw new IllegalStateException("DOC.md tells no constants");
        for (String constant : line.group(1).split(", ")) {
            String[] parts = constant.split(" = ");
            named(readme, "| " + parts[1] + " | `" + parts[0] + "` |");
        }
    }

    private static void tests(String readme) throws IOException {
        try (DirectoryStream<Path> files = Files.newDirectoryStream(TESTS, "*Test.java")) {
            for (Path file : files) named(readme, file.getFileName().toString().replace(".java", ""));
        }
    }
}
