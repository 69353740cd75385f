import java.io.File;
import java.io.IOException;
import java.lang.reflect.Method;
import java.nio.file.Files;
import java.nio.file.Path;
import java.util.ArrayList;
import java.util.LinkedHashMap;
import java.util.LinkedHashSet;
import java.util.List;
import java.util.Map;
import java.util.Set;
import java.util.regex.Matcher;
import java.util.regex.Pattern;
import java.util.stream.Stream;

/** That README.md is so: its example's answers, its tables, the files that it names, its commands. */
public final class ReadmeTest {
    private static final Pattern CALL = Pattern.compile("shire\\.(\\w+)\\(([^)]*)\\); +// (-?\\d+)(: .+)");
    private static final String MADE = "ShireWays shire = new ShireWays();";

    // It runs this test, too, so that running it from here would have no end.
    private static final String ALL_TESTS = "bash .ci/run";

    private static int wrong = 0;
    private static int looks = 0;

    private static void due(String what, Object got, Object want) {
        looks++;
        if (got.equals(want)) return;
        wrong++;
        System.out.println(what + ": " + got + ", due is " + want);
    }

    private static List<String> fenced(String text, String language) {
        List<String> lines = new ArrayList<>();
        Matcher block = Pattern.compile("(?s)\n```" + language + "\n(.*?)```\n").matcher(text);
        while (block.find()) {
            for (String line : block.group(1).split("\n")) if (!line.isEmpty()) lines.add(line);
        }
        return lines;
    }

    private static int number(String told) throws ReflectiveOperationException {
        String name = told.trim();
        if (!name.startsWith("ShireWays.")) return Integer.parseInt(name);
        return ShireWays.class.getField(name.substring("ShireWays.".length())).getInt(null);
    }

    private static int answer(ShireWays shire, String name, String given) throws ReflectiveOperationException {
        String[] told = given.split(",");
        Object[] numbers = new Object[told.length];
        Class<?>[] types = new Class<?>[told.length];
        for (int i = 0; i < told.length; i++) {
            numbers[i] = number(told[i]);
            types[i] = int.class;
        }
        Method call = ShireWays.class.getMethod(name, types);
        return (int) call.invoke(shire, numbers);
    }

    /** Every line of the example is a call that answers what stands behind it; every call of the face is shown. */
    private static void example(String readme, Set<String> face) throws ReflectiveOperationException {
        List<String> lines = fenced(readme, "java");
        due("the example begins", lines.get(0), MADE);
        ShireWays shire = new ShireWays();
        Set<String> shown = new LinkedHashSet<>();
        for (String line : lines.subList(1, lines.size())) {
            Matcher call = CALL.matcher(line);
            due("a line of the example is a call: " + line, call.matches(), true);
            if (!call.matches()) continue;
            shown.add(call.group(1));
            due(line, answer(shire, call.group(1), call.group(2)), Integer.valueOf(call.group(3)));
            refusalOf(line, Integer.parseInt(call.group(3)), call.group(4));
        }
        for (String name : face) due("the example shows " + name, shown.contains(name), true);
    }

    private static void refusalOf(String line, int answer, String behind) throws ReflectiveOperationException {
        if (answer >= 0) return;
        Matcher name = Pattern.compile(": ([A-Z]+): .*").matcher(behind);
        due("a refusal is told by its name: " + line, name.matches(), true);
        if (name.matches()) due(line, number("ShireWays." + name.group(1)), answer);
    }

    /** The document's calls by name: what they take, and which refusals their promises tell, in their order. */
    private static Map<String, String> promised(String document) {
        Map<String, String> rows = new LinkedHashMap<>();
        Matcher promise = Pattern.compile("\n`int (\\w+)\\(([^)]*)\\)`: (.*)\n").matcher(document);
        while (promise.find()) {
            Set<String> refusals = new LinkedHashSet<>();
            Matcher refusal = Pattern.compile("\\b(UNKNOWN|BAD|STATE|FULL|CAST)\\b").matcher(promise.group(3));
            while (refusal.find()) refusals.add(refusal.group(1));
            String given = promise.group(2).replaceAll("\\bint ", "");
            rows.put(promise.group(1), "(" + given + ") " + String.join(", ", refusals));
        }
        return rows;
    }

    private static void calls(String readme, Map<String, String> promised) {
        Map<String, String> told = new LinkedHashMap<>();
        Matcher row = Pattern.compile("\n\\| `(\\w+)(\\([^)]*\\))` \\| [^|]+ \\| ([^|]+) (?=\\|\n)").matcher(readme);
        while (row.find()) told.put(row.group(1), row.group(2) + " " + row.group(3));
        due("the calls, in the document's order", new ArrayList<>(told.keySet()), new ArrayList<>(promised.keySet()));
        for (String name : promised.keySet()) due(name, told.getOrDefault(name, ""), promised.get(name));
    }

    private static void constants(String readme) throws ReflectiveOperationException {
        Map<String, Integer> told = new LinkedHashMap<>();
        Matcher row = Pattern.compile("\n\\| `([A-Z]+)` \\| (-\\d+) (?=\\|)").matcher(readme);
        while (row.find()) told.put(row.group(1), Integer.valueOf(row.group(2)));
        due("the refusals", String.join(" ", told.keySet()), "UNKNOWN BAD STATE FULL CAST");
        for (String name : told.keySet()) due(name, told.get(name), number("ShireWays." + name));
        due("NONE is told", readme.contains("`NONE` (" + ShireWays.NONE + ")"), true);
    }

    private static void files(String readme) throws IOException {
        Matcher path = Pattern.compile("`((?:src|\\.ci|\\.\\.)/[^`*]+)`").matcher(readme);
        int named = 0;
        for (; path.find(); named++) due("there is " + path.group(1), Files.exists(Path.of(path.group(1))), true);
        due("files are named", named > 8, true);
        try (Stream<Path> tests = Files.list(Path.of("src/test/java"))) {
            for (Path test : tests.toList()) {
                String name = test.toString().replace(File.separatorChar, '/');
                due(name + " is named", readme.contains("`" + name + "`"), true);
            }
        }
    }

    private static void copy(Path from, Path to) throws IOException {
        try (Stream<Path> all = Files.walk(from)) {
            for (Path one : all.toList()) {
                Path there = to.resolve(one.toString());
                if (Files.isDirectory(one)) Files.createDirectories(there);
                else Files.copy(one, there);
            }
        }
    }

    private static void delete(Path folder) throws IOException {
        try (Stream<Path> all = Files.walk(folder)) {
            List<Path> inner = new ArrayList<>(all.toList());
            for (int i = inner.size() - 1; i >= 0; i--) Files.delete(inner.get(i));
        }
    }

    /** The commands run one behind the other, each from the project's folder, in a copy of it. */
    private static void commands(String readme) throws IOException, InterruptedException {
        List<String> lines = fenced(readme, "sh");
        due("how to run all tests", lines.contains(ALL_TESTS), true);
        due("the script can be run", Files.isExecutable(Path.of(".ci/run")), true);
        due("there are commands", lines.size() > 3, true);
        Path folder = Files.createTempDirectory("readme");
        try {
            copy(Path.of("src"), folder);
            for (String line : lines) if (!line.equals(ALL_TESTS)) due(line, exitOf(line, folder), 0);
        } finally {
            delete(folder);
        }
    }

    private static int exitOf(String command, Path folder) throws IOException, InterruptedException {
        return new ProcessBuilder("bash", "-c", command).directory(folder.toFile()).redirectErrorStream(true)
                .redirectOutput(ProcessBuilder.Redirect.DISCARD).start().waitFor();
    }

    public static void main(String[] args) throws Exception {
        String readme = Files.readString(Path.of("README.md"));
        Map<String, String> promised = promised(Files.readString(Path.of("../shared/DOC.md")));
        due("the document's calls are read", promised.size(), 24);
        example(readme, promised.keySet());
        calls(readme, promised);
        constants(readme);
        files(readme);
        commands(readme);
        System.out.println(looks + " looks, " + wrong + " not as due");
        if (wrong != 0) System.exit(1);
    }
}
