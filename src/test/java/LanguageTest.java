import java.io.IOException;
import java.lang.reflect.Constructor;
import java.lang.reflect.Field;
import java.lang.reflect.Method;
import java.lang.reflect.Modifier;
import java.nio.file.Files;
import java.nio.file.Path;
import java.util.TreeSet;
import java.util.regex.Matcher;
import java.util.regex.Pattern;

/** The rules of LANGUAGE.md that a test can look at; its argument is the path of the program. */
public final class LanguageTest {
    private static final Due due = new Due("language");
    private static final int MOST_LINES = 60;
    private static final String[] FACE = {"game", "say", "wipe", "fault", "tickets", "ticket", "fond",
        "right", "won", "odds", "useless", "often", "prize", "mean", "most", "sure", "bound", "more",
        "changed", "seen", "forget", "fits", "surely", "alone", "year", "image", "restore", "told"};
    private static final String[] CONSTANTS = {"UNKNOWN", "OUTSIDE", "STATE", "FULL", "NO", "NONE", "GONE"};
    private static final String[] BANNED = {"throw", "throws", "try", "catch", "synchronized", "assert",
        "instanceof", "import", "package", "double", "float", "volatile", "native", "System", "Object",
        "Thread", "Random", "hashCode", "toString", "equals", "protected", "var", "record"};

    public static void main(String[] args) throws IOException {
        String source = Files.readString(Path.of(args[0]));
        words(source);
        methodLengths(source);
        memory(source);
        face();
        insideClasses();
        due.close();
    }

    private static String withoutComments(String source) {
        return source.replaceAll("(?s)/\\*.*?\\*/", "").replaceAll("//[^\n]*", "");
    }

    private static void words(String source) {
        String code = withoutComments(source);
        for (String word : BANNED) {
            due.holds("no " + word, !Pattern.compile("\\b" + word + "\\b").matcher(code).find());
        }
        due.holds("no arrow", !code.contains("->"));
        due.holds("no method reference", !code.contains("::"));
        due.holds("no Exact", !code.contains("Exact"));
        due.holds("no text", code.indexOf('"') < 0);
        due.holds("signs to 127 alone", source.chars().allMatch(sign -> sign < 128));
    }

    /** Methods of classes inside begin at eight columns, those of the class of the document at four. */
    private static void methodLengths(String source) {
        String[] lines = source.split("\n");
        for (int i = 0; i < lines.length; i++) {
            String indent = lines[i].startsWith("        ") ? "        " : "    ";
            boolean head = lines[i].matches(" {4}( {4})?\\w[\\w\\[\\] ]*\\(.*\\) \\{")
                && !lines[i].trim().matches("(if|for|while|switch|return)\\b.*");
            for (int j = i; head && j < lines.length; j++) {
                if (lines[j].equals(indent + "}")) {
                    due.holds("short: " + lines[i].trim(), j - i < MOST_LINES);
                    break;
                }
            }
        }
    }

    /** Nothing is made after a constructor has ended: no call can fill the room. */
    private static void memory(String source) {
        for (String line : withoutComments(source).split("\n")) {
            if (Pattern.compile("\\bnew\\b").matcher(line).find()) {
                boolean inField = line.trim().startsWith("private final");
                boolean inConstructor = line.matches(
                    " {8}(pad|play|wheel|imageZero|imageOne) = .*| {12}(cells|low|high) = .*");
                due.holds("made once: " + line.trim(), inField || inConstructor);
            }
        }
    }

    private static void face() {
        due.holds("final", Modifier.isFinal(TicketWheel.class.getModifiers()));
        TreeSet<String> methods = new TreeSet<>();
        for (Method method : TicketWheel.class.getDeclaredMethods()) {
            if (Modifier.isPublic(method.getModifiers())) {
                methods.add(method.getName());
                due.holds("not static: " + method, !Modifier.isStatic(method.getModifiers()));
            } else {
                due.holds("private: " + method, Modifier.isPrivate(method.getModifiers()));
            }
        }
        due.holds("methods: " + methods, methods.equals(new TreeSet<>(java.util.List.of(FACE))));
        TreeSet<String> constants = new TreeSet<>();
        for (Field field : TicketWheel.class.getDeclaredFields()) {
            if (Modifier.isPublic(field.getModifiers())) {
                constants.add(field.getName());
            } else {
                due.holds("private: " + field, Modifier.isPrivate(field.getModifiers()));
            }
            if (Modifier.isStatic(field.getModifiers())) {
                due.holds("final: " + field, Modifier.isFinal(field.getModifiers()));
            }
        }
        due.holds("constants: " + constants, constants.equals(new TreeSet<>(java.util.List.of(CONSTANTS))));
        Constructor<?>[] constructors = TicketWheel.class.getDeclaredConstructors();
        due.equal("constructors", constructors.length, 1);
    }

    private static void insideClasses() {
        TreeSet<String> names = new TreeSet<>(java.util.List.of(FACE));
        Class<?>[] inside = TicketWheel.class.getDeclaredClasses();
        due.holds("at most twelve classes", inside.length < 12);
        for (Class<?> one : inside) {
            due.holds("static: " + one, Modifier.isStatic(one.getModifiers()));
            due.holds("not public: " + one, !Modifier.isPublic(one.getModifiers()));
            int fields = 0;
            for (Field field : one.getDeclaredFields()) {
                fields += Modifier.isStatic(field.getModifiers()) ? 0 : 1;
            }
            due.holds("at most twenty fields: " + one, fields <= 20);
            for (Method method : one.getDeclaredMethods()) {
                due.holds("a name of its own: " + method, !names.contains(method.getName()));
                due.holds("at most seven parameters: " + method, method.getParameterCount() <= 7);
            }
        }
    }
}
