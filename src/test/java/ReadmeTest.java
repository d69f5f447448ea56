import java.io.IOException;
import java.lang.reflect.Field;
import java.lang.reflect.Method;
import java.lang.reflect.Modifier;
import java.nio.file.Files;
import java.nio.file.Path;
import java.util.ArrayList;
import java.util.List;
import java.util.TreeMap;
import java.util.TreeSet;
import java.util.regex.Matcher;
import java.util.regex.Pattern;
import java.util.stream.Stream;

/** What README.md says of the class holds; its second argument is the path of README.md. */
public final class ReadmeTest {
    private static final Due due = new Due("readme");
    private static final Pattern TEXT = Pattern.compile("for \\(char sign : \"([^\"]*)\"\\.toCharArray\\(\\)\\) \\{");
    private static final Pattern CALL = Pattern.compile("wheel\\.(\\w+)\\(([^)]*)\\); +// (-?\\d+).*");
    private static final Pattern ROW = Pattern.compile("\\| `(\\w+)\\(([^)]*)\\)` \\| .* \\| ?(.*?) ?\\|");
    private static final Pattern CONSTANT = Pattern.compile("\\| `([A-Z]+)` \\| (-\\d+) \\| .*");
    private static final Pattern TEST = Pattern.compile("\\| `(\\w+Test)` \\| .*");
    /** Values on both sides of the bounds that the calls have. */
    private static final int[] VALUES = {Integer.MIN_VALUE, -2, -1, 0, 1, 2, 3, 7, 8, 99, 1000, Integer.MAX_VALUE};

    public static void main(String[] args) throws IOException, ReflectiveOperationException {
        List<String> lines = Files.readAllLines(Path.of(args[1]));
        examples(lines);
        calls(lines);
        constants(lines);
        tests(lines, Path.of(args[1]).toAbsolutePath().getParent());
        due.close();
    }

    /** The program of the page, over all its blocks: each call is told with its answer. */
    private static void examples(List<String> lines) throws ReflectiveOperationException {
        TicketWheel wheel = null;
        TreeSet<String> shown = new TreeSet<>();
        int checked = 0;
        for (String whole : lines) {
            String line = whole.trim();
            Matcher text = TEXT.matcher(line);
            Matcher call = CALL.matcher(line);
            if (line.startsWith("TicketWheel wheel = new TicketWheel();")) {
                wheel = new TicketWheel();
            } else if (text.matches()) {
                Scene.write(wheel, text.group(1));
            } else if (call.matches()) {
                due.equal(line, ask(wheel, method(call.group(1)), values(call.group(2))),
                    Long.parseLong(call.group(3)));
                shown.add(call.group(1));
                checked++;
            } else {
                due.holds("an example with its answer: " + line,
                    !line.startsWith("wheel.") || line.startsWith("wheel.say(sign);"));
            }
        }
        due.holds("examples of most calls: " + shown, checked >= 40 && shown.size() >= 20);
    }

    private static Method method(String name) {
        for (Method method : TicketWheel.class.getDeclaredMethods()) {
            if (method.getName().equals(name) && Modifier.isPublic(method.getModifiers())) {
                return method;
            }
        }
        throw new IllegalArgumentException("README.md names a call that there is not: " + name);
    }

    private static int[] values(String told) {
        if (told.isBlank()) {
            return new int[0];
        }
        return Stream.of(told.split(",")).map(String::trim).mapToInt(ReadmeTest::value).toArray();
    }

    private static int value(String told) {
        if (told.startsWith("'")) {
            return told.charAt(1);
        }
        return told.startsWith("0b") ? Integer.parseInt(told.substring(2), 2) : Integer.parseInt(told);
    }

    private static long ask(TicketWheel wheel, Method method, int[] values) throws ReflectiveOperationException {
        Object[] arguments = new Object[values.length];
        for (int i = 0; i < values.length; i++) {
            arguments[i] = values[i];
        }
        return ((Number) method.invoke(wheel, arguments)).longValue();
    }

    /** Each call has one row, with as many arguments as it takes and the negative answers that it gives. */
    private static void calls(List<String> lines) throws ReflectiveOperationException {
        TreeMap<String, Integer> rows = new TreeMap<>();
        for (String line : lines) {
            Matcher row = ROW.matcher(line);
            if (row.matches()) {
                Method method = method(row.group(1));
                rows.merge(row.group(1), 1, Integer::sum);
                due.equal("arguments of " + row.group(1),
                    row.group(2).isEmpty() ? 0 : row.group(2).split(",").length, method.getParameterCount());
                TreeSet<String> named = new TreeSet<>();
                Matcher name = Pattern.compile("`([A-Z]+)`").matcher(row.group(3));
                while (name.find()) {
                    named.add(name.group(1));
                }
                TreeSet<String> given = negativeAnswers(method);
                due.holds(row.group(1) + " is told with " + named + " and answers " + given, named.equals(given));
            }
        }
        for (Method method : TicketWheel.class.getDeclaredMethods()) {
            if (Modifier.isPublic(method.getModifiers())) {
                due.equal("rows of " + method.getName(), rows.getOrDefault(method.getName(), 0), 1);
            }
        }
    }

    private static TreeSet<String> negativeAnswers(Method method) throws ReflectiveOperationException {
        TreeSet<String> names = new TreeSet<>();
        for (int state = 0; state <= Scene.values().length; state++) {
            for (int[] values : mixes(method.getParameterCount())) {
                long answer = ask(inState(state), method, values);
                if (answer < 0) {
                    names.add(nameOf(answer <= TicketWheel.GONE ? answer - TicketWheel.GONE : answer));
                }
            }
        }
        return names;
    }

    /** The scenes, and one more: an object whose sights no draw fits. */
    private static TicketWheel inState(int state) {
        if (state < Scene.values().length) {
            return Scene.values()[state].make();
        }
        TicketWheel wheel = Scene.SMALL.make();
        wheel.seen(0, 0, 0);
        return wheel;
    }

    private static List<int[]> mixes(int many) {
        List<int[]> mixes = new ArrayList<>();
        mixes.add(new int[many]);
        for (int place = 0; place < many; place++) {
            List<int[]> longer = new ArrayList<>();
            for (int[] mix : mixes) {
                for (int value : VALUES) {
                    int[] next = mix.clone();
                    next[place] = value;
                    longer.add(next);
                }
            }
            mixes = longer;
        }
        return mixes;
    }

    private static String nameOf(long answer) throws ReflectiveOperationException {
        for (Field field : TicketWheel.class.getFields()) {
            if (field.getLong(null) == answer) {
                return field.getName();
            }
        }
        return "" + answer;
    }

    /** The table of refusals; NONE and GONE, which are none of them, are told below it. */
    private static void constants(List<String> lines) throws ReflectiveOperationException {
        TreeSet<String> left = new TreeSet<>();
        for (Field field : TicketWheel.class.getFields()) {
            left.add(field.getName());
        }
        for (String line : lines) {
            Matcher row = CONSTANT.matcher(line);
            if (row.matches()) {
                due.holds(row.group(1) + " is told once", left.remove(row.group(1)));
                due.equal(row.group(1), TicketWheel.class.getField(row.group(1)).getLong(null),
                    Long.parseLong(row.group(2)));
            }
        }
        due.holds("all but NONE and GONE: " + left, left.equals(new TreeSet<>(List.of("NONE", "GONE"))));
        String page = String.join(" ", lines);
        due.holds("NONE with its value", page.contains("`NONE`, " + TicketWheel.NONE + ","));
        due.holds("GONE with its value", page.contains("`GONE` and the refusal, the sum of " + TicketWheel.GONE));
    }

    private static void tests(List<String> lines, Path root) throws IOException {
        TreeSet<String> named = new TreeSet<>();
        for (String line : lines) {
            Matcher row = TEST.matcher(line);
            if (row.matches()) {
                due.holds(row.group(1) + " is told once", named.add(row.group(1)));
            }
        }
        TreeSet<String> there = new TreeSet<>();
        try (Stream<Path> files = Files.list(root.resolve("src/test/java"))) {
            files.map(file -> file.getFileName().toString()).filter(name -> name.endsWith("Test.java"))
                .forEach(name -> there.add(name.replace(".java", "")));
        }
        due.holds("tests: told are " + named + ", there are " + there, named.equals(there));
    }
}
