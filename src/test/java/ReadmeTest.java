import java.io.IOException;
import java.lang.reflect.Method;
import java.lang.reflect.Modifier;
import java.nio.file.Files;
import java.nio.file.Path;
import java.util.ArrayList;
import java.util.Arrays;
import java.util.List;
import java.util.Map;
import java.util.Set;
import java.util.TreeMap;
import java.util.TreeSet;
import java.util.regex.Matcher;
import java.util.regex.Pattern;
import java.util.stream.Stream;

/** What README.md says of the use of the class and of its tests holds as it is written there. */
public final class ReadmeTest {
    private static final String MADE_NEW = "CaseLine x = new CaseLine();";
    private static final Pattern SHOWN = Pattern.compile("x\\.(\\w+)\\(([-\\d, ]*)\\);\\s+// (-?\\d+|[A-Z]+)(:.*)?");
    private static final Pattern TOLD = Pattern.compile("\\| `(\\w+)\\(([\\w, ]*)\\)` \\|.*");
    private static final Pattern CONSTANT = Pattern.compile("\\| `([A-Z]+)` \\| (-\\d) \\|.*");
    private static final Pattern TEST = Pattern.compile("\\| (\\w+Test) \\|.*");

    private static final Map<String, Method> FACE = new TreeMap<>();

    public static void main(String[] args) throws IOException, ReflectiveOperationException {
        for (Method m : CaseLine.class.getDeclaredMethods()) {
            if (Modifier.isPublic(m.getModifiers())) {
                FACE.put(m.getName(), m);
            }
        }
        List<String> rows = Files.readAllLines(Path.of("README.md"));
        examples(rows);
        calls(rows);
        constants(rows);
        tests(rows);
        Due.end();
    }

    private static void same(String what, Set<String> got, Set<String> want) {
        Due.due(what + ": " + got, got.equals(want) ? 1 : 0, 1);
    }

    private static List<String> javaRows(List<String> rows) {
        List<String> inside = new ArrayList<>();
        boolean in = false;
        for (String row : rows) {
            if (row.startsWith("```")) {
                in = row.equals("```java");
            } else if (in && !row.isBlank()) {
                inside.add(row.strip());
            }
        }
        return inside;
    }

    private static void examples(List<String> rows) throws IOException, ReflectiveOperationException {
        Due.part("README, the examples");
        Set<String> shown = new TreeSet<>();
        CaseLine x = new CaseLine();
        for (String row : javaRows(rows)) {
            Matcher call = SHOWN.matcher(row);
            if (row.equals(MADE_NEW)) {
                x = new CaseLine();
            } else if (call.matches() && FACE.containsKey(call.group(1))) {
                shown.add(call.group(1));
                Due.due(row, answer(x, FACE.get(call.group(1)), call.group(2)), number(call.group(3)));
            } else {
                Due.due(row + " is a call with its answer", 0, 1);
            }
        }
        same("every call is shown", shown, FACE.keySet());
    }

    private static int answer(CaseLine x, Method m, String told) throws ReflectiveOperationException {
        Object[] numbers = Arrays.stream(told.split(", ")).filter(t -> !t.isEmpty()).map(Integer::valueOf).toArray();
        return (Integer) m.invoke(x, numbers);
    }

    private static int number(String answer) throws ReflectiveOperationException {
        return Character.isLetter(answer.charAt(0)) ? CaseLine.class.getField(answer).getInt(null) : Integer.parseInt(answer);
    }

    private static void calls(List<String> rows) {
        Due.part("README, the calls");
        Set<String> told = new TreeSet<>();
        for (String row : rows) {
            Matcher call = TOLD.matcher(row);
            if (call.matches() && FACE.containsKey(call.group(1))) {
                told.add(call.group(1));
                int numbers = call.group(2).isEmpty() ? 0 : call.group(2).split(", ").length;
                Due.due(row + " takes numbers", numbers, FACE.get(call.group(1)).getParameterCount());
            }
        }
        same("every call is told", told, FACE.keySet());
    }

    private static void constants(List<String> rows) throws ReflectiveOperationException {
        Due.part("README, the constants");
        Set<String> told = new TreeSet<>();
        for (String row : rows) {
            Matcher constant = CONSTANT.matcher(row);
            if (constant.matches()) {
                told.add(constant.group(1));
                Due.due(row, number(constant.group(1)), number(constant.group(2)));
            }
        }
        same("every constant is told", told, new TreeSet<>(Set.of("BAD", "NO", "FULL", "NONE")));
    }

    private static void tests(List<String> rows) throws IOException {
        Due.part("README, the tests");
        Set<String> told = new TreeSet<>();
        for (String row : rows) {
            Matcher test = TEST.matcher(row);
            if (test.matches()) {
                told.add(test.group(1) + ".java");
            }
        }
        Set<String> there = new TreeSet<>();
        try (Stream<Path> files = Files.list(Path.of("src/test/java"))) {
            files.map(f -> f.getFileName().toString()).filter(n -> n.endsWith("Test.java")).forEach(there::add);
        }
        same("the tests told are those that are there", told, there);
    }
}
