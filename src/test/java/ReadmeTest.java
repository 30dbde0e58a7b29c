import java.lang.reflect.Method;
import java.nio.file.Files;
import java.nio.file.Path;
import java.util.List;
import java.util.regex.Matcher;
import java.util.regex.Pattern;

/** The examples in README.md: what stands behind a call there is what it answers. */
public final class ReadmeTest {
    private static final Pattern CALL = Pattern.compile("x\\.(\\w+)\\(([^)]*)\\);");
    private static final Pattern ANSWER = Pattern.compile("// (-?\\d+|[A-Z]+)\\b");

    public static void main(String[] args) throws Exception {
        BlindSown x = null;
        boolean example = false;
        for (String line : Files.readAllLines(Path.of("README.md"))) {
            if (line.startsWith("```")) {
                example = line.equals("```java");
            } else if (example && line.equals("BlindSown x = new BlindSown();")) {
                x = new BlindSown();
            } else if (example) {
                lookAt(x, line);
            }
        }
        Check.end();
    }

    /** What is told at the end of a line is the answer of its last call. */
    private static void lookAt(BlindSown x, String line) throws Exception {
        Matcher call = CALL.matcher(line);
        int got = 0, calls = 0;
        while (call.find()) {
            got = answer(x, call.group(1), call.group(2));
            calls++;
        }
        Check.holds("README.md has calls in: " + line, calls > 0);
        Matcher told = ANSWER.matcher(line);
        if (told.find()) {
            Check.due("README.md: " + line, got, valueOf(told.group(1)));
        } else {
            Check.holds("README.md tells a number in: " + line, !line.contains("//"));
        }
    }

    private static int answer(BlindSown x, String name, String numbers) throws Exception {
        List<String> texts = numbers.isEmpty() ? List.of() : List.of(numbers.split(", "));
        for (Method m : BlindSown.class.getMethods()) {
            if (m.getName().equals(name) && m.getParameterCount() == texts.size()) {
                return (Integer) m.invoke(x, texts.stream().map(ReadmeTest::numberOf).toArray());
            }
        }
        throw new IllegalArgumentException("there is no " + name + " with " + texts.size() + " numbers");
    }

    private static Object numberOf(String text) {
        return text.startsWith("'") ? Integer.valueOf(text.charAt(1)) : Integer.valueOf(text);
    }

    private static int valueOf(String answer) throws Exception {
        boolean isName = Character.isLetter(answer.charAt(0));
        return isName ? BlindSown.class.getField(answer).getInt(null) : Integer.parseInt(answer);
    }
}
