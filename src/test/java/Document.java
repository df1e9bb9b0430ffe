import java.io.IOException;
import java.io.UncheckedIOException;
import java.nio.file.Files;
import java.nio.file.Path;
import java.util.LinkedHashMap;
import java.util.Map;
import java.util.regex.Matcher;
import java.util.regex.Pattern;

/** The words of ../shared/DOC.md, as the tests quote them; run from the project's folder. */
final class Document {
    static final String WHAT_IT_IS = "What it is";
    static final String TERMS = "Terms";

    private static final Pattern CALL = Pattern.compile("^`([^`]*)`: ");
    private static final Map<String, String> SIGNATURES = new LinkedHashMap<>();
    private static Map<String, String> parts;

    private Document() {
    }

    static String promise(int number) {
        return "Promise " + number;
    }

    /** The heading under which a quote stands, the promise's own one first; null if there is none. */
    static String headingOf(int promise, String words) {
        for (String heading : new String[] {promise(promise), TERMS, WHAT_IT_IS}) {
            if (part(heading).contains(words)) {
                return heading;
            }
        }
        return null;
    }

    static boolean says(int promise, String words) {
        return headingOf(promise, words) != null;
    }

    /** What stands under a heading, in one line; of a promise without the call's signature. */
    static String part(String heading) {
        if (parts == null) {
            parts = read();
        }
        return parts.getOrDefault(heading, "");
    }

    /** The call that a promise is of, as it stands before the promise's words. */
    static String signature(String promise) {
        return part(promise).isEmpty() ? "" : SIGNATURES.getOrDefault(promise, "");
    }

    private static Map<String, String> read() {
        Map<String, String> found = new LinkedHashMap<>();
        Matcher matcher = Pattern.compile("(?ms)^## (.+?)$(.*?)(?=^## |\\z)").matcher(words());
        while (matcher.find()) {
            String heading = matcher.group(1).replaceAll("^(Promise \\d+):.*", "$1").trim();
            String text = matcher.group(2)
                    .replaceAll("(?m)^```.*$", "")
                    .replaceAll("\\s+", " ")
                    .trim();
            Matcher call = CALL.matcher(text);
            if (call.find()) {
                SIGNATURES.put(heading, call.group(1));
            }
            found.put(heading, call.replaceFirst(""));
        }
        return found;
    }

    private static String words() {
        try {
            return Files.readString(Path.of("../shared/DOC.md"));
        } catch (IOException e) {
            throw new UncheckedIOException(e);
        }
    }
}
