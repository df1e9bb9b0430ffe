import java.io.IOException;
import java.lang.reflect.Method;
import java.nio.file.DirectoryStream;
import java.nio.file.Files;
import java.nio.file.Path;
import java.util.regex.Matcher;
import java.util.regex.Pattern;

/** README.md: its example answers as it says, it has the document's words, it tells of every test. */
public final class ReadmeTest {
    private static final Pattern TYPED = Pattern.compile("for \\(char c : \"([^\"]*)\"\\.toCharArray\\(\\)\\) \\{ x\\.type\\(c\\); \\}");
    private static final Pattern CALL = Pattern.compile("x\\.(\\w+)\\(([^)]*)\\); +// (-?\\d+): .+");
    private static final int PROMISES = 15;

    public static void main(String[] args) throws IOException, ReflectiveOperationException {
        String readme = Files.readString(Path.of("README.md"));
        example(readme);
        String words = readme.replaceAll("\\s+", " ");
        theDocumentsWords(words);
        constants(words);
        tests(words);
        Due.finish();
    }

    private static void example(String readme) throws ReflectiveOperationException {
        int from = readme.indexOf("```java\n");
        int to = readme.indexOf("```", from + 1);
        Due.holds("there is an example", from >= 0 && to > from);
        PackThreads x = new PackThreads();
        for (String line : readme.substring(from, to).split("\n")) {
            Matcher typed = TYPED.matcher(line);
            Matcher call = CALL.matcher(line);
            if (typed.matches()) {
                Due.types(x, typed.group(1));
            } else if (call.matches()) {
                Due.is("example: " + line, answer(x, call.group(1), call.group(2)),
                        Integer.parseInt(call.group(3)));
            } else {
                Due.holds("a line of the example that can be read: " + line,
                        line.equals("```java") || line.equals("PackThreads x = new PackThreads();"));
            }
        }
    }

    private static int answer(PackThreads x, String name, String args)
            throws ReflectiveOperationException {
        String[] words = args.isEmpty() ? new String[0] : args.split(", ");
        Object[] values = new Object[words.length];
        for (int k = 0; k < words.length; k++) {
            if (words[k].matches("true|false")) {
                values[k] = Boolean.valueOf(words[k]);
            } else {
                values[k] = Integer.valueOf(words[k]);
            }
        }
        for (Method method : PackThreads.class.getMethods()) {
            if (method.getName().equals(name)) {
                return (Integer) method.invoke(x, values);
            }
        }
        throw new NoSuchMethodException(name);
    }

    private static void theDocumentsWords(String words) {
        for (int number = 1; number <= PROMISES; number++) {
            String promise = Document.promise(number);
            String row = "| `" + Document.signature(promise) + "` | " + Document.part(promise) + " |";
            Due.holds("README.md has the row " + row, words.contains(row));
        }
        String refusals = "Calls answer, the first of these that fits: BAD (a number is not as told, "
                + "no such thing), NO (as told), FULL; then nothing changes.";
        Due.holds("the document's words of refusals", Document.part(Document.TERMS).contains(refusals));
        Due.holds("README.md has them", words.contains(refusals));
    }

    private static void constants(String words) {
        Due.holds("NONE", words.contains("| `NONE` | " + PackThreads.NONE + " |"));
        Due.holds("BAD", words.contains("| `BAD` | " + PackThreads.BAD + " |"));
        Due.holds("NO", words.contains("| `NO` | " + PackThreads.NO + " |"));
        Due.holds("FULL", words.contains("| `FULL` | " + PackThreads.FULL + " |"));
    }

    private static void tests(String words) throws IOException {
        try (DirectoryStream<Path> files =
                Files.newDirectoryStream(Path.of("src/test/java"), "*Test.java")) {
            for (Path file : files) {
                String name = file.getFileName().toString().replace(".java", "");
                Due.holds("README.md tells of " + name,
                        Pattern.compile("[|,] " + name + "[ ,]").matcher(words).find());
            }
        }
        Matcher told = Pattern.compile("(?<![*\\w])\\w+Test\\b").matcher(words);
        while (told.find()) {
            Due.holds("README.md tells of " + told.group() + ", which is there",
                    Files.exists(Path.of("src/test/java/" + told.group() + ".java")));
        }
    }
}
