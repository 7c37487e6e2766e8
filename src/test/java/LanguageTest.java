import java.io.IOException;
import java.lang.reflect.Constructor;
import java.lang.reflect.Field;
import java.lang.reflect.Member;
import java.lang.reflect.Method;
import java.lang.reflect.Modifier;
import java.nio.file.Files;
import java.nio.file.Path;
import java.util.ArrayList;
import java.util.Arrays;
import java.util.List;
import java.util.Map;
import java.util.Set;
import java.util.TreeMap;
import java.util.TreeSet;
import java.util.regex.Matcher;
import java.util.regex.Pattern;

/** The face of the class, and those rules of LANGUAGE.md that a program can look at. */
public final class LanguageTest {
    private static final String SOURCE = "src/main/java/StarPlates.java";
    private static final Set<String> FACE = new TreeSet<>(Arrays.asList(
            "int plate(int)", "int spot(int, int, int)", "boolean wipe(int, int)", "boolean reach(int)",
            "int look(int)", "int of(int, int)", "int lay(int, int, int)", "int pair(int, int, int)",
            "int track(int, int)", "int place(int, int, int)", "int motion(int, int)", "int tell(int, int)",
            "int foretell(int, int, int)", "int slip(int, int, int)"));
    private static final int DEEPEST = 8;
    private static int wrong = 0;

    public static void main(String[] args) throws IOException {
        face();
        List<Class<?>> classes = new ArrayList<>();
        classes.add(StarPlates.class);
        classes.addAll(Arrays.asList(StarPlates.class.getDeclaredClasses()));
        due(classes.size() <= 12, "at most twelve classes");
        for (Class<?> one : classes) {
            shape(one);
        }
        words(withoutComments(Files.readString(Path.of(SOURCE))));
        methodLengths(Files.readAllLines(Path.of(SOURCE)));
        callDepths(withoutComments(Files.readString(Path.of(SOURCE))));
        System.out.println(wrong == 0 ? "all rules are kept" : wrong + " rules are broken");
        if (wrong != 0) {
            System.exit(1);
        }
    }

    private static void due(boolean kept, String rule) {
        if (!kept) {
            wrong++;
            System.out.println("broken: " + rule);
        }
    }

    private static void face() {
        Class<StarPlates> main = StarPlates.class;
        due(Modifier.isPublic(main.getModifiers()) && Modifier.isFinal(main.getModifiers()), "public final class");
        Set<String> found = new TreeSet<>();
        for (Method method : main.getDeclaredMethods()) {
            if (Modifier.isPublic(method.getModifiers())) {
                found.add(signature(method));
            } else {
                due(Modifier.isPrivate(method.getModifiers()), "private: " + method);
            }
        }
        due(found.equals(FACE), "the document's methods and no others, but it has " + found);
        for (Field field : main.getDeclaredFields()) {
            due(Modifier.isPrivate(field.getModifiers()) || field.getName().equals("NONE"), "private: " + field);
        }
        Constructor<?>[] constructors = main.getDeclaredConstructors();
        due(constructors.length == 1 && constructors[0].getParameterCount() == 0
                && Modifier.isPublic(constructors[0].getModifiers()), "one public constructor");
    }

    private static String signature(Method method) {
        List<String> types = new ArrayList<>();
        for (Class<?> type : method.getParameterTypes()) {
            types.add(type.getName());
        }
        return method.getReturnType().getName() + " " + method.getName() + "(" + String.join(", ", types) + ")";
    }

    private static void shape(Class<?> one) {
        boolean inside = one != StarPlates.class;
        due(!inside || Modifier.isStatic(one.getModifiers()), "static: " + one);
        int fields = 0;
        for (Field field : one.getDeclaredFields()) {
            if (Modifier.isStatic(field.getModifiers())) {
                due(Modifier.isFinal(field.getModifiers()), "final: " + field);
            } else {
                fields++;
            }
        }
        due(fields <= 20, "at most twenty fields in " + one);
        for (Method method : one.getDeclaredMethods()) {
            due(method.getParameterCount() <= 7, "at most seven parameters: " + method);
            due(!isOfFace(method) || !inside, "no name of the face inside: " + method);
        }
    }

    private static boolean isOfFace(Member method) {
        for (String signature : FACE) {
            if (signature.contains(" " + method.getName() + "(")) {
                return true;
            }
        }
        return false;
    }

    private static String withoutComments(String source) {
        return source.replaceAll("(?s)/\\*.*?\\*/", "").replaceAll("//[^\n]*", "");
    }

    private static void words(String code) {
        String[] refused = {"\\bpackage\\b", "\\b(throw|throws|try|catch|finally|synchronized|assert)\\b", "->", "::",
            "Exact\\b", "\\bstatic\\s*\\{", "\\b(equals|hashCode|toString)\\b", "\\bSystem\\.(?!arraycopy)",
            "\\bArrays\\.(?!copyOf\\b|copyOfRange\\b|fill\\b)", "\\b(Random|Thread|Object|Class|Exception)\\b",
            "\\bvolatile\\b", "\\bnative\\b", "[^\\x00-\\xff]", "\\bwhile\\s*\\(\\s*true", "for\\s*\\(\\s*;\\s*;"};
        for (String words : refused) {
            Matcher matcher = Pattern.compile(words).matcher(code);
            due(!matcher.find(), "no " + words);
        }
        Matcher imports = Pattern.compile("import\\s+([^;]+);").matcher(code);
        while (imports.find()) {
            due(Set.of("java.util.Arrays", "java.util.ArrayList", "java.util.List").contains(imports.group(1)),
                    "no import of " + imports.group(1));
        }
    }

    /** A method starts at a line with ") {" of a member's indent and ends at its brace. */
    private static void methodLengths(List<String> lines) {
        int start = -1;
        String indent = "";
        for (int n = 0; n < lines.size(); n++) {
            String line = lines.get(n);
            Matcher head = Pattern.compile("^( {4}| {8})(?!if|for|while|switch|\\})\\w.*\\) \\{$").matcher(line);
            if (start < 0 && head.find()) {
                start = n;
                indent = head.group(1);
            } else if (start >= 0 && line.equals(indent + "}")) {
                due(n - start + 1 <= 60, "at most sixty lines from line " + (start + 1));
                start = -1;
            }
        }
        due(start < 0, "every method has an end");
    }

    /** By their names alone, so a method may seem to call more than it does, but never less. */
    private static void callDepths(String code) {
        Map<String, String> bodies = new TreeMap<>();
        Matcher method = Pattern.compile(
                "(?ms)^( {4}| {8})(?! |if|for|while|switch)[\\w\\[\\] ]*\\b(\\w+)\\([^;{]*\\) \\{$(.*?)^\\1\\}$").matcher(code);
        while (method.find()) {
            bodies.merge(method.group(2), method.group(3), String::concat);
        }
        for (Method one : StarPlates.class.getDeclaredMethods()) {
            due(bodies.containsKey(one.getName()), "found in the source: " + one.getName());
        }
        for (String name : bodies.keySet()) {
            int depth = callDepth(name, bodies, 1);
            due(depth <= DEEPEST, "calls at most eight deep and none that comes back: " + name);
        }
    }

    /** How many calls stand open at most, with those of the library; a circle goes past the bound. */
    private static int callDepth(String name, Map<String, String> bodies, int depth) {
        int most = depth;
        Matcher call = Pattern.compile("((?:Math|Arrays|System)\\.)?\\b(\\w+)\\(").matcher(bodies.getOrDefault(name, ""));
        while (call.find() && most <= DEEPEST) {
            if (call.group(1) != null || bodies.containsKey(call.group(2))) {
                String next = call.group(1) != null ? call.group() : call.group(2);
                most = Math.max(most, callDepth(next, bodies, depth + 1));
            }
        }
        return most;
    }
}
