import java.io.File;
import java.io.IOException;
import java.nio.charset.StandardCharsets;
import java.nio.file.Files;
import java.nio.file.Path;
import java.nio.file.Paths;
import java.util.Arrays;
import java.util.Map;
import java.util.TreeMap;
import java.util.regex.Matcher;
import java.util.regex.Pattern;

/**
 * Every sentence of the document's terms and promises is cited by a test (Check.says), and every
 * citation stands in the document, so that each finds the other.
 */
public final class SentencesTest {
    private static final Path DOCUMENT = Paths.get("../shared/DOC.md");
    private static final File TESTS = new File("src/test/java");
    private static final Pattern CITATION = Pattern.compile(
        "Check\\.says\\((TERMS|\"[^\"]*\"),\\s*((?:\"[^\"]*\"[\\s+]*)+)\\);");
    private static final Pattern TERMS_NAME = Pattern.compile("String TERMS = \"([^\"]*)\";");
    private static final Pattern METHOD = Pattern.compile("(?m)^    private static void (\\w+)\\(\\) \\{$");

    private final Map<String, String> sections = new TreeMap<>();
    private final Map<String, boolean[]> cited = new TreeMap<>();

    public static void main(String[] args) throws IOException {
        SentencesTest test = new SentencesTest();
        test.readDocument();
        for (File file : testFiles()) {
            test.readTest(read(file.toPath()), file.getName());
        }
        test.allIsCited();
        Check.finish();
    }

    private static String read(Path path) throws IOException {
        return new String(Files.readAllBytes(path), StandardCharsets.UTF_8);
    }

    private static File[] testFiles() {
        File[] files = TESTS.listFiles((dir, name) -> name.endsWith("Test.java"));
        return files == null ? new File[0] : files;
    }

    private static String oneLine(String s) {
        return s.replaceAll("\\s+", " ").trim();
    }

    private static String between(String s, String from, String to) {
        int begin = s.indexOf(from);
        int end = s.indexOf(to, Math.max(begin, 0));
        return begin < 0 || end < 0 ? "" : s.substring(begin + from.length(), end);
    }

    /** The parts of the document that tell what is due, without headings, fences and signatures. */
    private void readDocument() throws IOException {
        String doc = read(DOCUMENT).replace("```text", "").replace("```\n", "\n");
        put("What it is", between(doc, "made fair, rests asked for at every bell and told with the "
            + "order that broke them.", "## The public face"));
        String terms = between(doc, "## Terms", "## Promise 1:");
        put("Terms I", between(terms, "==== I. ", "==== II. "));
        put("Terms II", between(terms + "\n## End", "==== II. ", "\n## End"));
        for (int n = 1; n <= 16; n++) {
            String section = between(doc, "## Promise " + n + ":", "\n## ");
            put("Promise " + n, section.replaceFirst("(?s)^.*?`[^`]*`:", ""));
        }
    }

    private void put(String name, String text) {
        String line = oneLine(text);
        Check.due("the document has " + name, line.isEmpty(), false);
        sections.put(name, line);
        cited.put(name, new boolean[line.length()]);
    }

    private void readTest(String source, String file) {
        Matcher terms = TERMS_NAME.matcher(source);
        String termsName = terms.find() ? terms.group(1) : "";
        Matcher m = CITATION.matcher(source);
        int found = 0;
        int lastMethod = -1;
        while (m.find()) {
            found++;
            String where = m.group(1).equals("TERMS") ? termsName : m.group(1).replace("\"", "");
            cite(where, oneLine(m.group(2).replaceAll("\"\\s*\\+\\s*\"", "").replace("\"", "")));
            int method = methodAt(source, m.start());
            Check.due(file + ": a method for each citation, " + m.group(2), method != lastMethod, true);
            lastMethod = method;
        }
        int written = source.split("Check\\.says\\(").length - 1;
        Check.due(file + ": citations that can be read", found, file.equals("SentencesTest.java") ? 0 : written);
    }

    private static int methodAt(String source, int place) {
        Matcher m = METHOD.matcher(source);
        int method = -1;
        while (m.find() && m.start() < place) {
            method = m.start();
        }
        return method;
    }

    private void cite(String where, String sentence) {
        String section = sections.getOrDefault(where, "");
        int at = section.indexOf(sentence);
        Check.due("the document says in " + where + ": " + sentence, at >= 0 && !sentence.isEmpty(), true);
        if (at >= 0) {
            Arrays.fill(cited.get(where), at, at + sentence.length(), true);
        }
    }

    private void allIsCited() {
        for (String name : sections.keySet()) {
            StringBuilder left = new StringBuilder();
            for (int i = 0; i < sections.get(name).length(); i++) {
                left.append(cited.get(name)[i] ? ' ' : sections.get(name).charAt(i));
            }
            Check.same("no test cites of " + name, oneLine(left.toString()), "");
        }
    }
}
