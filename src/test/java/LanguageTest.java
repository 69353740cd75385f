import java.lang.reflect.Constructor;
import java.lang.reflect.Field;
import java.lang.reflect.Method;
import java.lang.reflect.Modifier;
import java.nio.file.Files;
import java.nio.file.Path;
import java.util.ArrayList;
import java.util.HashMap;
import java.util.HashSet;
import java.util.LinkedHashMap;
import java.util.LinkedHashSet;
import java.util.List;
import java.util.Map;
import java.util.Set;
import java.util.TreeSet;
import java.util.regex.Matcher;
import java.util.regex.Pattern;

/** The rules of LANGUAGE.md that a reader of the source can count, and the face of the class. */
public final class LanguageTest {
    private static final String FACE = "broke(2) counts(2) first(5) force(4) good(2) holds(4) lacking(4) lean(5) "
            + "leans(5) make(4) most(3) page(3) paper(3) papers(3) persons(4) reach(4) since(3) statute(4) steps(5) "
            + "stop(3) strike(1) total(1) walk(5) way(2)";
    private static final String CONSTANTS = "BAD=-2 CAST=-13 FULL=-4 NONE=-9 STATE=-3 UNKNOWN=-1";
    private static final String[] FORBIDDEN = {"\\bthrow\\b", "\\bthrows\\b", "\\btry\\b", "\\bcatch\\b",
        "\\bsynchronized\\b", "\\bassert\\b", "->", "::", "\\bstatic\\s*\\{", "\"", "\\bpackage\\b", "@",
        "\\binstanceof\\b", "\\bSystem\\.(?!arraycopy)", "\\bprotected\\b", "\\b(equals|hashCode|toString)\\b"};

    private static final Map<String, String> OWNERS = Map.of("book.", "Book.", "roads.", "Roads.", "sight.", "Sight.",
            "whole.", "Sight.", "lessened.", "Sight.", "spans.", "Spans.", "leaning.", "Leaning.");
    private static final Set<String> LIBRARY = Set.of("if", "for", "while", "fill", "bitCount");

    private static int wrong = 0;
    private static int looks = 0;

    private static void due(String what, Object got, Object want) {
        looks++;
        if (got.equals(want)) return;
        wrong++;
        System.out.println(what + ": " + got + ", due is " + want);
    }

    private static void face() throws IllegalAccessException {
        Set<String> methods = new TreeSet<>();
        Set<String> names = new HashSet<>();
        for (Method m : ShireWays.class.getDeclaredMethods()) {
            if (Modifier.isPublic(m.getModifiers())) {
                names.add(m.getName());
                methods.add(m.getName() + "(" + m.getParameterCount() + ")");
                due(m + " answers", m.getReturnType(), int.class);
                for (Class<?> type : m.getParameterTypes()) due(m + " takes", type, int.class);
                due(m + " is static", Modifier.isStatic(m.getModifiers()), false);
            }
        }
        due("the methods", String.join(" ", methods), FACE);
        Set<String> constants = new TreeSet<>();
        for (Field f : ShireWays.class.getDeclaredFields()) {
            if (Modifier.isPublic(f.getModifiers())) constants.add(f.getName() + "=" + f.getInt(null));
            else due(f + " is private", Modifier.isPrivate(f.getModifiers()), true);
        }
        due("the constants", String.join(" ", constants), CONSTANTS);
        due("constructors", ShireWays.class.getDeclaredConstructors().length, 1);
        for (Constructor<?> c : ShireWays.class.getDeclaredConstructors()) due("parameters", c.getParameterCount(), 0);
        due("final", Modifier.isFinal(ShireWays.class.getModifiers()), true);
        List<Class<?>> all = new ArrayList<>(List.of(ShireWays.class.getDeclaredClasses()));
        due("twelve classes at most", all.size() < 12, true);
        all.add(ShireWays.class);
        for (Class<?> c : all) classOf(c, names);
    }

    private static void classOf(Class<?> c, Set<String> publicNames) {
        if (c != ShireWays.class) due(c + " is static", Modifier.isStatic(c.getModifiers()), true);
        int fields = 0;
        for (Field f : c.getDeclaredFields()) {
            if (!Modifier.isStatic(f.getModifiers())) fields++;
            else due(f + " is a final number", Modifier.isFinal(f.getModifiers()) && f.getType() == int.class, true);
        }
        due(c + " has twenty fields at most", fields <= 20, true);
        for (Method m : c.getDeclaredMethods()) {
            due(m + " has seven parameters at most", m.getParameterCount() <= 7, true);
            boolean isFace = c == ShireWays.class && Modifier.isPublic(m.getModifiers());
            if (!isFace) due(m + " bears a public name", publicNames.contains(m.getName()), false);
        }
    }

    private static void words(String code) {
        for (String word : FORBIDDEN) due("forbidden: " + word, Pattern.compile(word).matcher(code).find(), false);
        Matcher imports = Pattern.compile("import ([^;]*);").matcher(code);
        while (imports.find()) due("import", imports.group(1), "java.util.Arrays");
    }

    /** The methods' bodies by class and name; no two methods of one class bear one name here. */
    private static Map<String, String> bodies(String code) {
        Map<String, String> bodies = new LinkedHashMap<>();
        Matcher head = Pattern.compile("(?:class (\\w+) \\{)|(?:\\n +(?:public |private |static )*(?:int|boolean|void)"
                + " (\\w+)\\([^)]*\\) \\{)").matcher(code);
        String owner = "";
        while (head.find()) {
            if (head.group(1) != null) {
                owner = head.group(1);
                continue;
            }
            int depth = 1, end = head.end();
            while (depth > 0) {
                char c = code.charAt(end++);
                depth += c == '{' ? 1 : c == '}' ? -1 : 0;
            }
            String body = code.substring(head.end(), end);
            due(head.group(2) + " has some sixty lines at most", body.split("\n").length <= 60, true);
            due(owner + " has one " + head.group(2), bodies.put(owner + "." + head.group(2), body) == null, true);
        }
        return bodies;
    }

    private static int depthOf(String method, Map<String, Set<String>> calls, Map<String, Integer> known, int open) {
        if (open > 50) return 1000;
        Integer depth = known.get(method);
        if (depth != null) return depth;
        int most = 0;
        for (String called : calls.get(method)) most = Math.max(most, depthOf(called, calls, known, open + 1));
        known.put(method, most + 1);
        return most + 1;
    }

    private static void depths(Map<String, String> bodies) {
        Map<String, Set<String>> calls = new HashMap<>();
        for (String caller : bodies.keySet()) {
            Set<String> called = new LinkedHashSet<>();
            Matcher call = Pattern.compile("(\\w+\\.)?\\b(\\w+)\\(").matcher(bodies.get(caller));
            while (call.find()) {
                String owner = call.group(1) == null ? caller.substring(0, caller.indexOf('.') + 1)
                        : OWNERS.getOrDefault(call.group(1), "");
                if (bodies.containsKey(owner + call.group(2))) called.add(owner + call.group(2));
                else if (bodies.containsKey("ShireWays." + call.group(2))) called.add("ShireWays." + call.group(2));
                else if (!LIBRARY.contains(call.group(2))) due("a call that is not known", call.group(), "");
            }
            calls.put(caller, called);
        }
        Map<String, Integer> known = new HashMap<>();
        int most = 0;
        for (String m : bodies.keySet()) most = Math.max(most, depthOf(m, calls, known, 0));
        due("eight calls deep at most, found " + most, most <= 8, true);
    }

    public static void main(String[] args) throws Exception {
        String source = Files.readString(Path.of("src/main/java/ShireWays.java"));
        due("signs up to 127", source.chars().allMatch(c -> c < 128), true);
        String code = source.replaceAll("(?s)/\\*.*?\\*/", "").replaceAll("//[^\n]*", "");
        face();
        words(code);
        Map<String, String> bodies = bodies(code);
        due("the methods are read", bodies.size() > 60, true);
        depths(bodies);
        System.out.println(looks + " looks, " + wrong + " not as due");
        if (wrong != 0) System.exit(1);
    }
}
