import java.io.IOException;
import java.lang.reflect.Method;
import java.nio.file.Files;
import java.nio.file.Path;
import java.util.ArrayList;
import java.util.Arrays;
import java.util.List;
import java.util.Map;
import java.util.Set;
import java.util.TreeMap;
import java.util.TreeSet;
import java.util.regex.Matcher;
import java.util.regex.Pattern;
import java.util.stream.Stream;

/** What README.md shows of the class's use answers as README.md says; it leaves out no call and no test. */
public final class ReadmeTest {
    private static final String NEW_OBJECT = "DigitDivider x = new DigitDivider();";
    private static final Pattern SHOWN_CALL = Pattern.compile("x\\.(\\w+)\\(([-\\d, ]*)\\); +// (-?\\d+)(: .+)?");
    private static final Pattern TOLD_CALL = Pattern.compile("\\| `(\\w+)\\(([\\w, ]*)\\)` \\| .+ \\|");
    private static final Pattern TOLD_TEST = Pattern.compile("- `(\\w+Test)`: .+");
    private static final Answers A = new Answers();

    private final List<String> lines;
    private final Map<String, Method> face = new TreeMap<>();

    private ReadmeTest(List<String> lines) {
        this.lines = lines;
        Arrays.stream(DigitDivider.class.getMethods())
            .filter(method -> method.getDeclaringClass() == DigitDivider.class)
            .forEach(method -> face.put(method.getName(), method));
    }

    public static void main(String[] args) throws IOException, ReflectiveOperationException {
        ReadmeTest test = new ReadmeTest(Files.readAllLines(Path.of("README.md")));
        test.shownCalls();
        test.toldCalls();
        test.toldTests();
        A.end();
    }

    private void shownCalls() throws ReflectiveOperationException {
        A.says("README.md: Use (what is shown answers so)");
        Set<String> shown = new TreeSet<>();
        DigitDivider x = null;
        int calls = 0;
        for (String line : shownLines()) {
            Matcher call = SHOWN_CALL.matcher(line);
            if (line.equals(NEW_OBJECT)) {
                x = new DigitDivider();
                calls = 0;
            } else if (x != null && call.matches() && takes(call.group(1), numbers(call.group(2)).length)) {
                Object answer = face.get(call.group(1)).invoke(x, numbers(call.group(2)));
                A.due(line, ((Number) answer).longValue(), Long.parseLong(call.group(3)));
                shown.add(call.group(1));
                calls++;
                A.due("calls of the object, up to " + line, Math.max(calls, Answers.CALLS), Answers.CALLS);
            } else {
                A.due("is understood: " + line, 0, 1);
            }
        }
        for (String name : face.keySet()) {
            A.due("is shown: " + name, shown.contains(name) ? 1 : 0, 1);
        }
    }

    private List<String> shownLines() {
        List<String> shown = new ArrayList<>();
        boolean inside = false;
        for (String line : lines) {
            if (line.startsWith("```")) {
                inside = line.equals("```java");
            } else if (inside && !line.isBlank()) {
                shown.add(line);
            }
        }
        return shown;
    }

    private boolean takes(String name, int numbers) {
        return face.containsKey(name) && face.get(name).getParameterCount() == numbers;
    }

    private static Object[] numbers(String list) {
        return list.isEmpty() ? new Object[0] : Stream.of(list.split(", ")).map(Integer::valueOf).toArray();
    }

    private void toldCalls() {
        A.says("README.md: Calls (those of the face, each once)");
        List<String> told = new ArrayList<>();
        for (String line : lines) {
            Matcher call = TOLD_CALL.matcher(line);
            if (call.matches()) {
                int names = call.group(2).isEmpty() ? 0 : call.group(2).split(", ").length;
                A.due("is of the face: " + line, takes(call.group(1), names) ? 1 : 0, 1);
                told.add(call.group(1));
            }
        }
        A.due("calls told", told.size(), face.size());
        A.due("different calls told", new TreeSet<>(told).size(), face.size());
    }

    private void toldTests() throws IOException {
        A.says("README.md: Tests (all that there are, and no other)");
        Set<String> told = new TreeSet<>();
        for (String line : lines) {
            Matcher test = TOLD_TEST.matcher(line);
            if (test.matches()) {
                told.add(test.group(1));
            }
        }
        Set<String> there = new TreeSet<>();
        try (Stream<Path> files = Files.list(Path.of("src/test/java"))) {
            files.map(file -> file.getFileName().toString())
                .filter(name -> name.endsWith("Test.java"))
                .forEach(name -> there.add(name.replace(".java", "")));
        }
        A.due("tests told " + told + ", tests there " + there, told.equals(there) ? 1 : 0, 1);
    }
}
