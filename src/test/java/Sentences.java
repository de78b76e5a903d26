import java.io.IOException;
import java.nio.file.Files;
import java.nio.file.Path;
import java.util.ArrayList;
import java.util.LinkedHashMap;
import java.util.List;
import java.util.Map;
import java.util.regex.Matcher;
import java.util.regex.Pattern;

/** The sentences of the document that tests are about, compared with the document, so that none is left out. */
final class Sentences {
    private static final Path DOCUMENT = Path.of("../shared/DOC.md");
    private static final Map<String, List<String>> SAID = new LinkedHashMap<>();

    private Sentences() {
    }

    static void said(String section, String words) {
        SAID.computeIfAbsent(section, key -> new ArrayList<>()).add(words);
    }

    /** Each sentence stands in its section, and in the terms and promises no word is left that no test is about. */
    static void compareWithDocument() throws IOException {
        if (!Files.exists(DOCUMENT)) {
            System.out.println("the document is not there, so the sentences are not compared with it");
            return;
        }
        Map<String, String> sections = sections(Files.readString(DOCUMENT));
        for (String section : SAID.keySet()) {
            if (!sections.containsKey(section)) {
                Check.fail("the document has no section " + section);
            }
        }
        for (Map.Entry<String, String> entry : sections.entrySet()) {
            String left = without(entry.getKey(), entry.getValue());
            boolean told = entry.getKey().equals("Terms") || entry.getKey().startsWith("Promise ");
            if (told && Pattern.compile("\\w").matcher(left).find()) {
                Check.fail("no test is about this of " + entry.getKey() + ": " + left.strip());
            }
        }
    }

    private static String without(String section, String text) {
        String left = text;
        for (String words : SAID.getOrDefault(section, List.of())) {
            if (!text.contains(words)) {
                Check.fail("the document does not say so in " + section + ": " + words);
            }
            left = left.replace(words, " ");
        }
        return left;
    }

    private static Map<String, String> sections(String document) {
        Map<String, String> sections = new LinkedHashMap<>();
        Matcher found = Pattern.compile("(?ms)^## (Promise \\d+|[^\\n]*)[^\\n]*\\n(.*?)(?=^## |\\z)").matcher(document);
        while (found.find()) {
            sections.put(found.group(1), plain(found.group(2)));
        }
        return sections;
    }

    /** Without headings and the face's lines, and with one space for each stretch of white space. */
    private static String plain(String text) {
        return text.replaceAll("(?m)^###.*$", " ").replaceAll("(?m)^Snapshots, undo$", " ")
            .replaceAll("(?m)^`[^`]*`: ", " ").replaceAll("\\s+", " ");
    }
}
