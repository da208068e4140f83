import java.io.IOException;
import java.lang.reflect.Constructor;
import java.lang.reflect.Field;
import java.lang.reflect.Method;
import java.lang.reflect.Modifier;
import java.nio.charset.StandardCharsets;
import java.nio.file.Files;
import java.nio.file.Paths;
import java.util.Set;
import java.util.TreeSet;
import java.util.regex.Matcher;
import java.util.regex.Pattern;

/** The document's face and no other, and of LANGUAGE.md's rules those that can be looked at. */
public final class FaceTest {
    private static final String SOURCE = "src/main/java/WatchBill.java";
    private static final String DOCUMENT = "../shared/DOC.md";
    private static final int METHODS = 15;
    private static final Set<String> LIBRARY = Set.of("Arrays.fill", "Math.max", "Math.min");
    private static final String[] RULED_OUT = {"throw", "throws", "try", "catch", "synchronized",
        "assert", "protected", "volatile", "native", "package", "hashCode", "toString", "System",
        "Random", "Thread", "->", "::"};

    public static void main(String[] args) throws IOException {
        Set<String> face = faceOfTheDocument();
        methods(face);
        constantsAndConstructor();
        namesOfMethodsInside(face);
        words();
        libraryCalls();
        objectsAreMadeByConstructors();
        lengthsOfMethods();
        Check.finish();
    }

    private static String read(String path) throws IOException {
        return new String(Files.readAllBytes(Paths.get(path)), StandardCharsets.UTF_8);
    }

    /** Each method as the document's face has it, without the names of its parameters. */
    private static Set<String> faceOfTheDocument() throws IOException {
        String doc = read(DOCUMENT);
        int begin = doc.indexOf("public final class WatchBill {");
        String block = doc.substring(Math.max(begin, 0), doc.indexOf("```", Math.max(begin, 0)));
        Set<String> face = new TreeSet<>();
        Matcher method = Pattern.compile("(?m)^    public (\\w+ \\w+\\([^)]*\\));$").matcher(block);
        while (method.find()) {
            face.add(method.group(1).replaceAll("(int|boolean) \\w+(?=[,)])", "$1"));
        }
        Check.due("methods of the document's face", face.size(), METHODS);
        Check.due("the face's constant", block.contains("public static final int NONE = -1;"), true);
        Check.due("the face's constructor", block.contains("public WatchBill();"), true);
        Check.due("members of the face", block.split("\n    public ").length - 1, METHODS + 2);
        return face;
    }

    private static String told(Method m) {
        StringBuilder s = new StringBuilder(m.getReturnType() + " " + m.getName() + "(");
        for (Class<?> type : m.getParameterTypes()) {
            s.append(s.charAt(s.length() - 1) == '(' ? "" : ", ").append(type);
        }
        return s.append(")").toString();
    }

    private static void methods(Set<String> face) {
        Set<String> open = new TreeSet<>();
        for (Method m : WatchBill.class.getDeclaredMethods()) {
            if (!Modifier.isPrivate(m.getModifiers()) && !m.isSynthetic()) {
                open.add(told(m));
                Check.due(m.getName() + " is public, not static",
                    Modifier.isPublic(m.getModifiers()) && !Modifier.isStatic(m.getModifiers()), true);
            }
        }
        Check.same("the face's methods", open.toString(), face.toString());
    }

    private static void constantsAndConstructor() {
        Check.due("public and final", WatchBill.class.getModifiers(), Modifier.PUBLIC | Modifier.FINAL);
        Check.due("NONE", WatchBill.NONE, -1);
        for (Field f : WatchBill.class.getDeclaredFields()) {
            boolean isPublic = f.getName().equals("NONE");
            Check.due(f.getName() + " is private, but NONE",
                Modifier.isPrivate(f.getModifiers()) != isPublic, true);
        }
        Constructor<?>[] all = WatchBill.class.getDeclaredConstructors();
        Check.due("constructors", all.length, 1);
        Check.due("its parameters", all[0].getParameterCount(), 0);
        Check.due("it is public", Modifier.isPublic(all[0].getModifiers()), true);
    }

    private static void namesOfMethodsInside(Set<String> face) {
        Set<String> names = new TreeSet<>();
        for (String method : face) {
            names.add(method.replaceAll("^\\w+ (\\w+).*", "$1"));
        }
        Class<?>[] inside = WatchBill.class.getDeclaredClasses();
        Check.due("at most twelve classes", inside.length < 12, true);
        for (Class<?> c : inside) {
            Check.due(c.getName() + " is static", Modifier.isStatic(c.getModifiers()), true);
            int fields = 0;
            for (Field f : c.getDeclaredFields()) {
                fields += Modifier.isStatic(f.getModifiers()) ? 0 : 1;
            }
            Check.due(c.getName() + " has some twenty fields", fields <= 20, true);
            for (Method m : c.getDeclaredMethods()) {
                Check.due(m.getName() + " isn't a name of the face", names.contains(m.getName()), false);
                Check.due(m.getName() + " has few parameters", m.getParameterCount() <= 7, true);
            }
        }
    }

    private static String sourceWithoutComments() throws IOException {
        return read(SOURCE).replaceAll("(?s)/\\*.*?\\*/", "").replaceAll("//[^\n]*", "");
    }

    private static void words() throws IOException {
        String source = sourceWithoutComments();
        for (String word : RULED_OUT) {
            String edge = Character.isLetter(word.charAt(0)) ? "\\b" : "";
            boolean found = Pattern.compile(edge + Pattern.quote(word) + edge).matcher(source).find();
            Check.due("the source has " + word, found, false);
        }
        Matcher imports = Pattern.compile("import ([\\w.*]+);").matcher(source);
        while (imports.find()) {
            Check.due("import of " + imports.group(1), imports.group(1).equals("java.util.Arrays"), true);
        }
    }

    private static void libraryCalls() throws IOException {
        Matcher call = Pattern.compile("\\b[A-Z]\\w*\\.\\w+(?=\\()").matcher(sourceWithoutComments());
        while (call.find()) {
            Check.due("the library's " + call.group(), LIBRARY.contains(call.group()), true);
        }
    }

    /** All calls of a run share one room: what a call would make is never given back. */
    private static void objectsAreMadeByConstructors() throws IOException {
        String method = "";
        for (String line : sourceWithoutComments().split("\n")) {
            if (line.contains(" class ")) {
                method = "";
            } else if (line.matches("( {4}| {8})(?!if|for|while|switch)\\w[\\w\\[\\] ]*\\(.*\\) \\{")) {
                method = line.trim();
            }
            boolean inMethod = !method.isEmpty() && !method.matches("(public )?[A-Z]\\w*\\(.*");
            Check.due("made in " + method + line, inMethod && line.matches(".*\\bnew\\b.*"), false);
        }
    }

    private static void lengthsOfMethods() throws IOException {
        int lines = 0;
        for (String line : sourceWithoutComments().split("\n")) {
            lines++;
            if (line.matches("( {4}| {8})}")) {
                lines = 0;
            }
            Check.due("a method stays short: " + line.trim(), lines < 61 || line.contains("static final"), true);
        }
    }
}
