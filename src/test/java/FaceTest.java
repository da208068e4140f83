import java.io.IOException;
import java.lang.reflect.Constructor;
import java.lang.reflect.Field;
import java.lang.reflect.Method;
import java.lang.reflect.Modifier;
import java.nio.charset.StandardCharsets;
import java.nio.file.Files;
import java.nio.file.Paths;
import java.util.Arrays;
import java.util.Set;
import java.util.TreeSet;
import java.util.regex.Matcher;
import java.util.regex.Pattern;

/** The document's face and no other, and of LANGUAGE.md's rules those that can be looked at. */
public final class FaceTest {
    private static final String SOURCE = "src/main/java/WatchBill.java";
    private static final String[] FACE = {
        "int feed(int, int, int, int, int)", "int end(int)", "int text()", "int fault(int)",
        "int hand(int, int)", "boolean sick(int, int)", "int handOf(int, int)",
        "int bill(int, int)", "int watch(int)", "int order(int)", "int ordered(int, int)",
        "int could(int)", "int bells(int)", "int breach(int, int)", "int about(int)"};
    private static final String[] RULED_OUT = {"throw", "throws", "try", "catch", "synchronized",
        "assert", "protected", "volatile", "native", "package", "hashCode", "toString", "System",
        "Random", "Thread", "->", "::"};

    public static void main(String[] args) throws IOException {
        methods();
        constantsAndConstructor();
        namesOfMethodsInside();
        words();
        lengthsOfMethods();
        Check.finish();
    }

    private static String told(Method m) {
        StringBuilder s = new StringBuilder(m.getReturnType() + " " + m.getName() + "(");
        for (Class<?> type : m.getParameterTypes()) {
            s.append(s.charAt(s.length() - 1) == '(' ? "" : ", ").append(type);
        }
        return s.append(")").toString();
    }

    private static void methods() {
        Set<String> open = new TreeSet<>();
        for (Method m : WatchBill.class.getDeclaredMethods()) {
            if (!Modifier.isPrivate(m.getModifiers()) && !m.isSynthetic()) {
                open.add(told(m));
                Check.due(m.getName() + " is public, not static",
                    Modifier.isPublic(m.getModifiers()) && !Modifier.isStatic(m.getModifiers()), true);
            }
        }
        Check.due("the face's methods, found " + open, open.equals(new TreeSet<>(Arrays.asList(FACE))), true);
    }

    private static void constantsAndConstructor() {
        Check.due("public and final", WatchBill.class.getModifiers(), Modifier.PUBLIC | Modifier.FINAL);
        Check.due("NONE", WatchBill.NONE, -1);
        for (Field f : WatchBill.class.getDeclaredFields()) {
            boolean isPublic = f.getName().equals("NONE");
            Check.due(f.getName() + " is private, but NONE",
                Modifier.isPrivate(f.getModifiers()) != isPublic, true);
        }
        Constructor<?>[] all = WatchBill.class.getDeclaredConstructors();
        Check.due("constructors", all.length, 1);
        Check.due("its parameters", all[0].getParameterCount(), 0);
        Check.due("it is public", Modifier.isPublic(all[0].getModifiers()), true);
    }

    private static void namesOfMethodsInside() {
        Set<String> names = new TreeSet<>();
        for (String method : FACE) {
            names.add(method.replaceAll("^\\w+ (\\w+).*", "$1"));
        }
        Class<?>[] inside = WatchBill.class.getDeclaredClasses();
        Check.due("at most twelve classes", inside.length < 12, true);
        for (Class<?> c : inside) {
            Check.due(c.getName() + " is static", Modifier.isStatic(c.getModifiers()), true);
            int fields = 0;
            for (Field f : c.getDeclaredFields()) {
                fields += Modifier.isStatic(f.getModifiers()) ? 0 : 1;
            }
            Check.due(c.getName() + " has some twenty fields", fields <= 20, true);
            for (Method m : c.getDeclaredMethods()) {
                Check.due(m.getName() + " isn't a name of the face", names.contains(m.getName()), false);
                Check.due(m.getName() + " has few parameters", m.getParameterCount() <= 7, true);
            }
        }
    }

    private static String sourceWithoutComments() throws IOException {
        String s = new String(Files.readAllBytes(Paths.get(SOURCE)), StandardCharsets.UTF_8);
        return s.replaceAll("(?s)/\\*.*?\\*/", "").replaceAll("//[^\n]*", "");
    }

    private static void words() throws IOException {
        String source = sourceWithoutComments();
        for (String word : RULED_OUT) {
            String edge = Character.isLetter(word.charAt(0)) ? "\\b" : "";
            boolean found = Pattern.compile(edge + Pattern.quote(word) + edge).matcher(source).find();
            Check.due("the source has " + word, found, false);
        }
        Matcher imports = Pattern.compile("import ([\\w.*]+);").matcher(source);
        while (imports.find()) {
            Check.due("import of " + imports.group(1), imports.group(1).equals("java.util.Arrays"), true);
        }
    }

    private static void lengthsOfMethods() throws IOException {
        int lines = 0;
        for (String line : sourceWithoutComments().split("\n")) {
            lines++;
            if (line.matches("( {4}| {8})}")) {
                lines = 0;
            }
            Check.due("a method stays short: " + line.trim(), lines < 61 || line.contains("static final"), true);
        }
    }
}
