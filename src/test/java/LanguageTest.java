import java.io.IOException;
import java.nio.file.Files;
import java.nio.file.Path;
import java.util.regex.Matcher;
import java.util.regex.Pattern;

/** The rules of LANGUAGE.md that can be read off the source, run from the project's folder. */
public final class LanguageTest {
    private static final String[] REFUSED = {"throw", "throws", "try", "catch", "finally",
        "synchronized", "assert", "package", "protected", "System\\.(?!arraycopy\\b)\\w+", "Thread",
        "Random", "\\w+Exact", "hashCode", "Object", "\\w*Exception", "volatile", "native",
        "import (?!java\\.util\\.(ArrayList|List|Arrays|Iterator);)[\\w.*]+"};

    public static void main(String[] args) throws IOException {
        String source = Files.readString(Path.of("src/main/java/PackThreads.java"));
        String code = source.replaceAll("(?s)/\\*.*?\\*/", "").replaceAll("//[^\n]*", "");
        for (String word : REFUSED) {
            Due.holds("no " + word, !Pattern.compile("\\b" + word + "\\b").matcher(code).find());
        }
        Due.holds("no lambda and no method reference", !code.contains("->") && !code.contains("::"));
        Due.holds("classes inside are static", !Pattern.compile("private (final )?class").matcher(code).find());
        Due.holds("at most twelve classes", count(code, "\\bclass \\w+ \\{") <= 12);
        Due.holds("static fields are final", count(code, "\\bstatic (?!final\\b)\\w+[\\[\\]]* \\w+ *[=;]") == 0);
        shortMethods(source);
        Due.finish();
    }

    private static int count(String code, String what) {
        int found = 0;
        for (Matcher matcher = Pattern.compile(what).matcher(code); matcher.find();) {
            found++;
        }
        return found;
    }

    private static void shortMethods(String source) {
        Pattern head = Pattern.compile("^( {4}| {8})(?! |private static final class)[\\w ]+\\(.*\\{$");
        String end = null;
        int length = 0;
        int methods = 0;
        for (String line : source.split("\n")) {
            Matcher matcher = head.matcher(line);
            if (end == null && matcher.find()) {
                end = matcher.group(1) + "}";
                length = 0;
                methods++;
            }
            length++;
            if (line.equals(end)) {
                Due.holds("a method has at most sixty lines, " + length, length <= 60);
                end = null;
            }
        }
        Due.holds("methods were found, " + methods, methods > 14);
    }
}
