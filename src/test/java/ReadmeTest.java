import java.io.IOException;
import java.lang.reflect.Method;
import java.lang.reflect.Modifier;
import java.nio.charset.StandardCharsets;
import java.nio.file.Files;
import java.nio.file.Paths;
import java.util.Set;
import java.util.TreeSet;
import java.util.regex.Matcher;
import java.util.regex.Pattern;

/** What README.md shows holds: its run is played call by call, its clauses are read. */
public final class ReadmeTest {
    private static final Pattern RUN = Pattern.compile("(?s)```java\n(.*?)```");
    private static final Pattern CALL =
        Pattern.compile("ship\\.(\\w+)\\(([^)]*)\\);\\s*// (-?\\d+|true|false)\\b.*");
    private static final Pattern CLAUSE = Pattern.compile("(?m)^\\| `([^`]*)` \\|.*\\| (?:`([^`]*)`|no bills)");
    private static final Pattern SHOWN_TEXT = Pattern.compile("// \"([^\"]*)\", (\\d+) bytes");

    public static void main(String[] args) throws IOException, ReflectiveOperationException {
        String readme = new String(Files.readAllBytes(Paths.get("README.md")), StandardCharsets.UTF_8);
        Matcher run = RUN.matcher(readme);
        Check.due("README.md has a run", run.find(), true);
        String lines = run.group(1);
        play(lines);
        textOfTheFeeds(lines);
        clauses(readme);
        Check.finish();
    }

    private static void play(String lines) throws ReflectiveOperationException {
        WatchBill ship = new WatchBill();
        Set<String> unused = new TreeSet<>();
        for (Method m : WatchBill.class.getDeclaredMethods()) {
            if (Modifier.isPublic(m.getModifiers())) {
                unused.add(m.getName());
            }
        }
        for (String line : lines.split("\n")) {
            Matcher call = CALL.matcher(line);
            if (call.matches()) {
                unused.remove(call.group(1));
                Check.same("README.md: " + line, answer(ship, call.group(1), call.group(2)), call.group(3));
            } else {
                boolean other = line.isEmpty() || line.startsWith("//") || line.startsWith("WatchBill ship =");
                Check.due("README.md, a line with its answer: " + line, other, true);
            }
        }
        Check.same("methods that README.md's run doesn't call", unused.toString(), "[]");
    }

    private static String answer(WatchBill ship, String name, String told) throws ReflectiveOperationException {
        String[] words = told.isEmpty() ? new String[0] : told.split(", ");
        Object[] arguments = new Object[words.length];
        Class<?>[] types = new Class<?>[words.length];
        for (int i = 0; i < words.length; i++) {
            arguments[i] = Integer.decode(words[i]);
            types[i] = int.class;
        }
        return String.valueOf(WatchBill.class.getMethod(name, types).invoke(ship, arguments));
    }

    /** The comment above the feeds tells what the feeds hold. */
    private static void textOfTheFeeds(String lines) {
        Matcher shown = SHOWN_TEXT.matcher(lines);
        Check.due("README.md tells the text", shown.find(), true);
        StringBuilder fed = new StringBuilder();
        Matcher word = Pattern.compile("0x([0-9a-f]{2})([0-9a-f]{2})([0-9a-f]{2})([0-9a-f]{2})").matcher(lines);
        while (word.find()) {
            for (int g = 1; g <= 4; g++) {
                fed.append((char) Integer.parseInt(word.group(g), 16));
            }
        }
        Check.same("the feeds' text", fed.toString().trim(), shown.group(1));
        Check.same("its length", shown.group(2), String.valueOf(shown.group(1).length()));
    }

    /** Each clause can be read; one that is left out says what stands beside it. */
    private static void clauses(String readme) {
        Matcher clause = CLAUSE.matcher(readme);
        StringBuilder all = new StringBuilder();
        StringBuilder without = new StringBuilder();
        int found = 0;
        while (clause.find()) {
            found++;
            all.append(clause.group(1));
            without.append(clause.group(2) == null ? "" : clause.group(2));
        }
        Check.due("clauses in README.md", found, 6);
        Check.sound(all.toString(), 1);
        WatchBill bare = new WatchBill();
        Check.same("a text without clauses", Check.state(Check.ship(without.toString())), Check.state(bare));
    }
}
