import java.io.IOException;
import java.lang.reflect.Field;
import java.lang.reflect.Method;
import java.lang.reflect.Modifier;
import java.nio.file.Files;
import java.nio.file.Path;
import java.util.ArrayList;
import java.util.List;
import java.util.Map;
import java.util.Set;
import java.util.TreeMap;
import java.util.TreeSet;
import java.util.regex.Matcher;
import java.util.regex.Pattern;
import java.util.stream.Stream;

/** What README.md says is so: its examples answer what they say, and its tables and lists leave nothing out. */
public final class ReadmeTest {
    private static final String MADE = "LightHours x = new LightHours();";
    /** A call in an example, with what it answers (a number or a constant) ahead of any words on it. */
    private static final Pattern CALL =
        Pattern.compile("(?:int (\\w+) = )?x\\.(\\w+)\\(([^()]*)\\); +// (-?\\d+|[A-Z]+)(?:: .+)?");
    private static final Pattern CALL_ROW = Pattern.compile("\\| `(\\w+)\\(([^()]*)\\)` \\| .+ \\| .+ \\|");
    private static final Pattern CONSTANT_ROW = Pattern.compile("\\| `([A-Z]+)` \\| (-?\\d+) \\| .+ \\|");
    private static final Pattern TEST_NAME = Pattern.compile("`(\\w+Test)`");
    private static final int FEWEST_EXAMPLES = 30;

    private static int wrong = 0;
    private static int examples = 0;

    private static void check(boolean good, String what) {
        if (!good) {
            wrong++;
            System.out.println(what);
        }
    }

    public static void main(String[] args) throws IOException, ReflectiveOperationException {
        List<String> lines = Files.readAllLines(Path.of("README.md"));
        for (List<String> block : javaBlocks(lines)) {
            follow(block);
        }
        check(examples >= FEWEST_EXAMPLES, "README.md has only " + examples + " examples that could be followed");
        calls(lines);
        constants(lines);
        tests(lines);
        String text = String.join(" ", lines);
        check(text.contains("512 calls"), "README.md doesn't say for how many calls an object is good");
        check(lines.contains("    .ci/run"), "README.md doesn't say how to run the tests");
        System.out.println(wrong == 0 ? "README.md is so, " + examples + " examples" : wrong + " faults in README.md");
        if (wrong != 0) {
            System.exit(1);
        }
    }

    private static List<List<String>> javaBlocks(List<String> lines) {
        List<List<String>> blocks = new ArrayList<>();
        List<String> open = null;
        for (String line : lines) {
            if (line.startsWith("```")) {
                open = line.equals("```java") ? new ArrayList<>() : null;
                if (open != null) {
                    blocks.add(open);
                }
            } else if (open != null) {
                open.add(line);
            }
        }
        return blocks;
    }

    private static void follow(List<String> block) throws ReflectiveOperationException {
        LightHours x = new LightHours();
        Map<String, Integer> names = new TreeMap<>();
        check(!block.isEmpty() && block.get(0).equals(MADE), "an example doesn't begin with " + MADE);
        for (String line : block.subList(Math.min(1, block.size()), block.size())) {
            Matcher call = CALL.matcher(line);
            if (!call.matches()) {
                check(false, "an example can't be followed: " + line);
                continue;
            }
            int got = answer(x, call.group(2), call.group(3), names);
            int due = numberOf(call.group(4), names);
            check(got == due, "an example answers " + got + ": " + line);
            examples++;
            if (call.group(1) != null) {
                names.put(call.group(1), got);
            }
        }
    }

    private static int answer(LightHours x, String name, String arguments, Map<String, Integer> names)
            throws ReflectiveOperationException {
        Method method = publicMethods().get(name);
        if (method == null) {
            throw new NoSuchMethodException(name);
        }
        String[] words = arguments.isEmpty() ? new String[0] : arguments.split(", ");
        Object[] values = new Object[words.length];
        for (int i = 0; i < words.length; i++) {
            boolean truth = words[i].equals("true") || words[i].equals("false");
            values[i] = truth ? (Object) Boolean.valueOf(words[i]) : (Object) numberOf(words[i], names);
        }
        return (Integer) method.invoke(x, values);
    }

    private static int numberOf(String word, Map<String, Integer> names) throws ReflectiveOperationException {
        if (names.containsKey(word)) {
            return names.get(word);
        }
        return word.matches("-?\\d+") ? Integer.parseInt(word) : LightHours.class.getField(word).getInt(null);
    }

    private static Map<String, Method> publicMethods() {
        Map<String, Method> methods = new TreeMap<>();
        for (Method m : LightHours.class.getDeclaredMethods()) {
            if (Modifier.isPublic(m.getModifiers())) {
                methods.put(m.getName(), m);
            }
        }
        return methods;
    }

    private static void calls(List<String> lines) {
        Map<String, Integer> told = new TreeMap<>();
        for (String line : lines) {
            Matcher row = CALL_ROW.matcher(line);
            if (row.matches()) {
                String parameters = row.group(2);
                int count = parameters.isEmpty() ? 0 : parameters.split(", ").length;
                check(told.put(row.group(1), count) == null, row.group(1) + " stands in two rows");
            }
        }
        Map<String, Integer> there = new TreeMap<>();
        publicMethods().forEach((name, method) -> there.put(name, method.getParameterCount()));
        check(told.equals(there), "the calls are " + there + ", README.md has " + told);
    }

    private static void constants(List<String> lines) throws IllegalAccessException {
        Map<String, Integer> told = new TreeMap<>();
        for (String line : lines) {
            Matcher row = CONSTANT_ROW.matcher(line);
            if (row.matches()) {
                told.put(row.group(1), Integer.parseInt(row.group(2)));
            }
        }
        Map<String, Integer> there = new TreeMap<>();
        for (Field f : LightHours.class.getFields()) {
            there.put(f.getName(), f.getInt(null));
        }
        check(told.equals(there), "the constants are " + there + ", README.md has " + told);
    }

    private static void tests(List<String> lines) throws IOException {
        Set<String> told = new TreeSet<>();
        for (String line : lines) {
            Matcher name = TEST_NAME.matcher(line);
            while (name.find()) {
                told.add(name.group(1));
            }
        }
        Set<String> there = new TreeSet<>();
        try (Stream<Path> files = Files.list(Path.of("src/test/java"))) {
            files.forEach(file -> there.add(file.getFileName().toString().replace(".java", "")));
        }
        check(told.equals(there), "the tests are " + there + ", README.md has " + told);
    }
}
