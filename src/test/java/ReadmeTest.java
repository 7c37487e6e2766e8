import java.io.IOException;
import java.io.UncheckedIOException;
import java.lang.reflect.InvocationTargetException;
import java.lang.reflect.Method;
import java.lang.reflect.Modifier;
import java.nio.file.Files;
import java.nio.file.Path;
import java.util.ArrayList;
import java.util.Arrays;
import java.util.HashMap;
import java.util.List;
import java.util.Map;
import java.util.Set;
import java.util.TreeSet;
import java.util.regex.Matcher;
import java.util.regex.Pattern;
import java.util.stream.Stream;

/** README.md: its example answers what stands there, and it leaves out no call and no test. */
public final class ReadmeTest extends Checks {
    private static final Pattern EXAMPLE = Pattern.compile("(?s)```java\n(.*?)```");
    private static final Pattern MAKING = Pattern.compile("StarPlates s = new StarPlates\\(\\);");
    private static final Pattern CALL =
            Pattern.compile("(?:int (\\w+) = )?s\\.(\\w+)\\(([^)]*)\\); +// (-?\\d+|true|false)(:.*)?");
    private static final Pattern ROW = Pattern.compile("(?m)^\\| `(\\w+)\\(([^)]*)\\)` \\|.*\\| (\\S.*?) \\|$");

    private static final String README = read(Path.of("README.md"));
    private static final Map<String, Method> FACE = face();

    public static void main(String[] args) {
        run(ReadmeTest::example, ReadmeTest::table, ReadmeTest::tests);
    }

    private static void example() {
        sentence("README: the example answers what stands there", () -> {
            Matcher found = EXAMPLE.matcher(README);
            due("there is an example", found.find(), true);
            runLines(found.group(1).split("\n"));
        });
    }

    /** The lines are read here, not compiled: so each of them can be told from the others. */
    private static void runLines(String[] lines) {
        StarPlates s = new StarPlates();
        Map<String, Integer> names = new HashMap<>();
        Set<String> called = new TreeSet<>();
        for (String line : lines) {
            if (line.isEmpty() || MAKING.matcher(line).matches()) {
                continue;
            }
            Matcher call = CALL.matcher(line);
            due("this line can be read: " + line, call.matches(), true);
            int got = answer(s, FACE.get(call.group(2)), numbers(call.group(3), names));
            due(line, got, number(call.group(4)));
            if (call.group(1) != null) {
                names.put(call.group(1), got);
            }
            called.add(call.group(2));
        }
        dueAll("in the example", FACE.keySet(), called);
    }

    private static void table() {
        sentence("README: the table has every call, with what it answers else", () -> {
            Set<String> rows = new TreeSet<>();
            Matcher row = ROW.matcher(README);
            while (row.find()) {
                String name = row.group(1);
                rows.add(name);
                Method method = FACE.get(name);
                due("there is a call " + name, method != null, true);
                // no plate -5 can be, nor a track, a spot, a year, a reach or a what
                Object[] wrong = new Object[row.group(2).split(",").length];
                Arrays.fill(wrong, -5);
                due("else of " + name, answer(new StarPlates(), method, wrong), number(row.group(3)));
            }
            dueAll("in the table", FACE.keySet(), rows);
        });
    }

    private static void tests() {
        sentence("README: every test is named, and every test named is there", () -> {
            Set<String> there = new TreeSet<>();
            try (Stream<Path> files = Files.list(Path.of("src/test/java"))) {
                files.forEach(file -> there.add(file.getFileName().toString().replace(".java", "")));
            } catch (IOException e) {
                throw new UncheckedIOException(e);
            }
            Set<String> named = new TreeSet<>();
            Matcher word = Pattern.compile("`(\\w+Test|Checks)`").matcher(README);
            while (word.find()) {
                named.add(word.group(1));
            }
            dueAll("under 'Tests'", there, named);
            dueAll("under src/test/java", named, there);
        });
    }

    private static void dueAll(String where, Set<String> want, Set<String> got) {
        for (String one : want) {
            due(one + " stands " + where, got.contains(one), true);
        }
    }

    private static Map<String, Method> face() {
        Map<String, Method> face = new HashMap<>();
        for (Method method : StarPlates.class.getDeclaredMethods()) {
            if (Modifier.isPublic(method.getModifiers())) {
                face.put(method.getName(), method);
            }
        }
        return face;
    }

    private static int answer(StarPlates s, Method method, Object[] arguments) {
        try {
            Object given = method.invoke(s, arguments);
            return given instanceof Boolean b ? (b ? 1 : 0) : (Integer) given;
        } catch (IllegalAccessException | InvocationTargetException e) {
            throw new IllegalStateException(method.getName() + " threw", e);
        }
    }

    private static Object[] numbers(String arguments, Map<String, Integer> names) {
        List<Object> numbers = new ArrayList<>();
        for (String argument : arguments.split(", ")) {
            numbers.add(names.containsKey(argument) ? names.get(argument) : Integer.valueOf(argument));
        }
        return numbers.toArray();
    }

    private static int number(String words) {
        return switch (words) {
            case "true" -> 1;
            case "false" -> 0;
            case "`NONE`" -> NONE;
            case "`NONE - 9999`" -> NO_PLACE;
            case "`NONE - 99999`" -> NO_FORETOLD;
            default -> Integer.parseInt(words);
        };
    }

    private static String read(Path file) {
        try {
            return Files.readString(file);
        } catch (IOException e) {
            throw new UncheckedIOException(e);
        }
    }
}
