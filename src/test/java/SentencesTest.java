import java.io.IOException;
import java.nio.file.DirectoryStream;
import java.nio.file.Files;
import java.nio.file.Path;
import java.util.ArrayList;
import java.util.Arrays;
import java.util.HashMap;
import java.util.List;
import java.util.Map;
import java.util.TreeSet;
import java.util.Set;
import java.util.regex.Matcher;
import java.util.regex.Pattern;

/** Each sentence of the document, but for what is not promised, is quoted by a test of its own. */
public final class SentencesTest {
    private static final Pattern QUOTE =
            Pattern.compile("Due\\.sentence\\((\\d+),\\s*((?:\"[^\"]*\"[\\s+]*)+|RULE)\\)");
    private static final Pattern RULE = Pattern.compile("String RULE = ((?:\"[^\"]*\"[\\s+]*)+);");
    private static final int PROMISES = 15;

    private final Map<String, boolean[]> quoted = new HashMap<>();
    private final Set<Integer> promises = new TreeSet<>();

    public static void main(String[] args) throws IOException {
        SentencesTest test = new SentencesTest();
        for (Path file : edgeTests()) {
            test.readQuotes(Files.readString(file));
        }
        for (int number = 1; number <= PROMISES; number++) {
            Due.holds("promise " + number + " has tests of its sentences",
                    test.promises.contains(number));
            test.allQuoted(Document.promise(number));
        }
        test.allQuoted(Document.TERMS);
        test.allQuoted(Document.WHAT_IT_IS);
        Due.finish();
    }

    private static List<Path> edgeTests() throws IOException {
        List<Path> found = new ArrayList<>();
        try (DirectoryStream<Path> files =
                Files.newDirectoryStream(Path.of("src/test/java"), "*EdgeTest.java")) {
            files.forEach(found::add);
        }
        return found;
    }

    private void readQuotes(String source) {
        Matcher rule = RULE.matcher(source);
        String ruleWords = rule.find() ? words(rule.group(1)) : "";
        Matcher quote = QUOTE.matcher(source);
        int found = 0;
        while (quote.find()) {
            found++;
            int promise = Integer.parseInt(quote.group(1));
            promises.add(promise);
            mark(promise, quote.group(2).equals("RULE") ? ruleWords : words(quote.group(2)));
        }
        int all = source.split("Due\\.sentence\\(", -1).length - 1;
        Due.is("quotes that could be read", found, all);
    }

    private static String words(String literals) {
        return literals.trim().replaceAll("\"\\s*\\+\\s*\"", "").replaceAll("^\"|\"$", "");
    }

    private void mark(int promise, String words) {
        String heading = Document.headingOf(promise, words);
        Due.holds("the document says '" + words + "'", heading != null && !words.isEmpty());
        if (heading == null || words.isEmpty()) {
            return;
        }
        String part = Document.part(heading);
        boolean[] marks = quoted.computeIfAbsent(heading, h -> new boolean[part.length()]);
        for (int at = part.indexOf(words); at >= 0; at = part.indexOf(words, at + 1)) {
            Arrays.fill(marks, at, at + words.length(), true);
        }
    }

    private void allQuoted(String heading) {
        String part = Document.part(heading);
        Due.holds(heading + " stands in the document", !part.isEmpty());
        boolean[] marks = quoted.getOrDefault(heading, new boolean[part.length()]);
        StringBuilder left = new StringBuilder();
        for (int i = 0; i < part.length(); i++) {
            left.append(marks[i] ? '\n' : part.charAt(i));
        }
        for (String words : left.toString().replaceAll("======== \\d", "").split("\n+")) {
            Due.holds(heading + ": no test quotes '" + words + "'", !words.matches(".*\\w.*"));
        }
    }
}
