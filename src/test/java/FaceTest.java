import java.io.IOException;
import java.lang.reflect.Member;
import java.lang.reflect.Modifier;
import java.nio.file.Files;
import java.nio.file.Path;
import java.util.Arrays;
import java.util.Set;
import java.util.TreeSet;
import java.util.regex.Pattern;
import java.util.stream.Stream;

/** The class has the document's face and no other, and none of the words its language leaves out. */
public final class FaceTest {
    private static final Answers A = new Answers();
    private static final String[] FACE = {
        "public DigitDivider()",
        "public static final int DigitDivider.BAD",
        "public static final int DigitDivider.NOT",
        "public int DigitDivider.digit(int,int,int)",
        "public int DigitDivider.set(int,int,int,int)",
        "public int DigitDivider.make(int)",
        "public int DigitDivider.copy(int,int)",
        "public int DigitDivider.good(int,int,int)",
        "public int DigitDivider.holds(int,int)",
        "public int DigitDivider.check(int)",
        "public int DigitDivider.wrong(int,int)",
        "public int DigitDivider.use(int)",
        "public int DigitDivider.divide(int,int)",
        "public int DigitDivider.quotient()",
        "public int DigitDivider.rest()",
        "public int DigitDivider.left()",
        "public int DigitDivider.step(int,int)",
        "public long DigitDivider.state(int,int)",
        "public int DigitDivider.told(int)",
        "public int DigitDivider.sweep(int,int,int)",
    };
    private static final String[] LEFT_OUT = {
        "throw", "throws", "try", "catch", "finally", "synchronized", "assert", "import", "package", "->", "::",
    };

    public static void main(String[] args) throws IOException {
        face();
        names();
        words();
        A.end();
    }

    private static void face() {
        A.says("The public face");
        Class<?> c = DigitDivider.class;
        Set<String> seen = new TreeSet<>();
        Stream.of(c.getDeclaredConstructors(), c.getDeclaredFields(), c.getDeclaredMethods())
            .flatMap(Arrays::stream)
            .filter(member -> !Modifier.isPrivate(((Member) member).getModifiers()))
            .forEach(member -> seen.add(member.toString()));
        Set<String> due = new TreeSet<>(Arrays.asList(FACE));
        for (String member : due) {
            A.due("has " + member, seen.contains(member) ? 1 : 0, 1);
        }
        seen.removeAll(due);
        A.due("members beyond the face " + seen, seen.size(), 0);
        A.due("is public and final", c.getModifiers(), Modifier.PUBLIC | Modifier.FINAL);
        A.due("BAD", DigitDivider.BAD, -1);
        A.due("NOT", DigitDivider.NOT, -2);
    }

    private static void names() {
        A.says("LANGUAGE 1: No private method bears the name of a public one.");
        Set<String> face = new TreeSet<>();
        Arrays.stream(DigitDivider.class.getMethods())
            .filter(method -> method.getDeclaringClass() == DigitDivider.class)
            .forEach(method -> face.add(method.getName()));
        Stream.concat(Stream.of(DigitDivider.class), Arrays.stream(DigitDivider.class.getDeclaredClasses()))
            .flatMap(c -> Arrays.stream(c.getDeclaredMethods()))
            .filter(method -> !Modifier.isPublic(method.getModifiers()))
            .forEach(method -> A.due(method + " bears a public name", face.contains(method.getName()) ? 1 : 0, 0));
    }

    private static void words() throws IOException {
        A.says("LANGUAGE 2, 4, 6: words that are left out");
        String text = Files.readString(Path.of("src/main/java/DigitDivider.java"))
            .replaceAll("(?s)/\\*.*?\\*/", " ")
            .replaceAll("//[^\n]*", " ");
        for (String word : LEFT_OUT) {
            Pattern alone = Pattern.compile("(?<!\\w)" + Pattern.quote(word) + "(?!\\w)");
            boolean found = word.matches("\\w+") ? alone.matcher(text).find() : text.contains(word);
            A.due("the source has " + word, found ? 1 : 0, 0);
        }
    }
}
