import java.io.IOException;
import java.nio.file.Files;
import java.nio.file.Path;
import java.util.List;
import java.util.Set;
import java.util.regex.Matcher;
import java.util.regex.Pattern;

/** What of ../shared/LANGUAGE.md can be told by the words of the source; the rest is told by reading. */
public final class LanguageTest {
    private static final List<String> NEVER = List.of("\\bimport\\b", "\\bpackage\\b", "\\btry\\b", "\\bcatch\\b",
        "\\bfinally\\b", "\\bsynchronized\\b", "\\bassert\\b", "\\brecord\\b", "\\bprotected\\b", "->", "::", "@",
        "Exact\\b", "\\bObject\\b", "\\bthread\\b", "\\brandom\\b");
    private static final Set<String> LIBRARY = Set.of("System.arraycopy", "Math.max", "Math.min", "Integer.compare",
        "Integer.bitCount");
    private static final Set<String> EXCEPTIONS = Set.of("IndexOutOfBoundsException", "IllegalArgumentException",
        "IllegalStateException");
    private static final int LONGEST_METHOD = 60;

    public static void main(String[] args) throws IOException {
        String source = Files.readString(Path.of("src/main/java/HerdCords.java"));
        for (int at = 0; at < source.length(); at++) {
            if (source.charAt(at) > 126) {
                Check.fail("a sign beyond 126 at " + at);
            }
        }
        String code = source.replaceAll("(?s)/\\*.*?\\*/", "").replaceAll("//[^\n]*", "")
            .replaceAll("\"[^\"\n]*\"", "\"\"");
        for (String words : NEVER) {
            Check.same("times of " + words, times(words, code), 0);
        }
        calls(code);
        thrown(code);
        methods(source);
        Check.end();
    }

    private static long times(String words, String code) {
        return Pattern.compile(words).matcher(code).results().count();
    }

    private static void calls(String code) {
        Matcher call = Pattern.compile("\\b([A-Z][a-z]\\w*\\.[a-z]\\w*)\\(").matcher(code);
        while (call.find()) {
            if (!LIBRARY.contains(call.group(1))) {
                Check.fail("no such library: " + call.group(1));
            }
        }
    }

    private static void thrown(String code) {
        Matcher thrown = Pattern.compile("\\bthrow\\b(?! new (\\w+)\\(\"\"\\);)|\\bthrow new (\\w+)").matcher(code);
        while (thrown.find()) {
            if (thrown.group(2) == null || !EXCEPTIONS.contains(thrown.group(2))) {
                Check.fail("thrown in another form at " + thrown.start());
            }
        }
    }

    private static void methods(String source) {
        Matcher method = Pattern.compile("(?ms)^(    |        )[^\\s/*}][^\\n;]*\\) [^\\n;]*\\{\\n.*?^\\1\\}$").matcher(source);
        int found = 0;
        while (method.find()) {
            found++;
            long lines = method.group().lines().count();
            if (lines > LONGEST_METHOD) {
                Check.fail("of " + lines + " lines: " + method.group().lines().findFirst().orElse(""));
            }
        }
        if (found < 60) {
            Check.fail("only " + found + " methods were found");
        }
    }
}
