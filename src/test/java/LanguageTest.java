import java.lang.reflect.Field;
import java.lang.reflect.Method;
import java.lang.reflect.Modifier;
import java.nio.file.Files;
import java.nio.file.Path;
import java.util.Arrays;
import java.util.List;
import java.util.Set;
import java.util.TreeSet;
import java.util.regex.Matcher;
import java.util.regex.Pattern;

/** The face of the class, and the rules of LANGUAGE.md that a program can look at. */
public final class LanguageTest {
    private static final List<String> METHODS = List.of(
        "set/3", "post/1", "clear/0", "say/1", "wipe/0", "fault/0", "night/0", "about/2",
        "up/2", "row/2", "strayed/2", "guessed/2", "spiral/3",
        "bells/2", "thief/3", "safest/1", "swap/2", "found/2",
        "over/2", "fruit/2", "share/1", "facing/2", "rest/1", "image/1", "restore/1", "told/1");
    private static final List<String> CONSTANTS = List.of("UNKNOWN", "OUTSIDE", "STATE", "FULL", "NO", "NONE");
    private static final int HIDDEN = Modifier.PRIVATE;
    private static final String SOURCE = "src/main/java/BlindSown.java";

    public static void main(String[] args) throws Exception {
        methodsOfTheFace();
        fieldsOfTheFace();
        classesInside();
        words(codeOf(Files.readString(Path.of(SOURCE))));
        lengths(Files.readAllLines(Path.of(SOURCE)));
        Check.end();
    }

    private static void methodsOfTheFace() {
        Set<String> open = new TreeSet<>();
        for (Method m : BlindSown.class.getDeclaredMethods()) {
            if ((m.getModifiers() & HIDDEN) == 0) {
                open.add(m.getName() + "/" + m.getParameterCount());
                Check.holds("rule 1: " + m + " is public", Modifier.isPublic(m.getModifiers()));
                Check.holds(m + " answers an int", m.getReturnType() == int.class);
            } else {
                Check.holds("rule 1: the name of " + m, !nameIsPublic(m.getName()));
            }
            Check.holds("rule 11: parameters of " + m, m.getParameterCount() <= 7);
        }
        Check.holds("rule 1: the methods are " + open, open.equals(new TreeSet<>(METHODS)));
        Check.due("rule 1: constructors", BlindSown.class.getDeclaredConstructors().length, 1);
        Check.due("rule 1: public constructors", BlindSown.class.getConstructors().length, 1);
        Check.holds("rule 1: final", Modifier.isFinal(BlindSown.class.getModifiers()));
    }

    private static boolean nameIsPublic(String name) {
        return METHODS.stream().anyMatch(m -> m.startsWith(name + "/"));
    }

    private static void fieldsOfTheFace() throws Exception {
        for (Field f : BlindSown.class.getDeclaredFields()) {
            if ((f.getModifiers() & HIDDEN) == 0) {
                Check.holds("rule 1: " + f, CONSTANTS.contains(f.getName()));
            }
        }
        int[] due = {-1, -2, -3, -4, -5, -6};
        for (int i = 0; i < due.length; i++) {
            Field f = BlindSown.class.getField(CONSTANTS.get(i));
            Check.due(CONSTANTS.get(i), f.getInt(null), due[i]);
        }
    }

    private static void classesInside() {
        Class<?>[] inside = BlindSown.class.getDeclaredClasses();
        Check.holds("rule 11: classes", inside.length + 1 <= 12);
        fieldsOf(BlindSown.class);
        for (Class<?> c : inside) {
            int is = c.getModifiers();
            Check.holds("rule 1: " + c + " is static", Modifier.isStatic(is));
            Check.holds("rule 1: " + c + " is not open", !Modifier.isPublic(is) && !Modifier.isProtected(is));
            fieldsOf(c);
            for (Method m : c.getDeclaredMethods()) {
                Check.holds("rule 1: the name of " + m, !nameIsPublic(m.getName()));
                Check.holds("rule 11: parameters of " + m, m.getParameterCount() <= 7);
            }
        }
    }

    private static void fieldsOf(Class<?> c) {
        int own = 0;
        for (Field f : c.getDeclaredFields()) {
            if (Modifier.isStatic(f.getModifiers())) {
                Check.holds("rule 5: " + f + " is final", Modifier.isFinal(f.getModifiers()));
            } else {
                own++;
            }
        }
        Check.holds("rule 11: fields of " + c, own <= 20);
    }

    /** The code without its comments, and without what stands in quotes. */
    private static String codeOf(String text) {
        return text.replaceAll("(?s)/\\*.*?\\*/", " ").replaceAll("//[^\n]*", " ")
            .replaceAll("\"(\\\\.|[^\"\\\\])*\"", "\"\"").replaceAll("'(\\\\.|[^'\\\\])'", "' '");
    }

    private static void words(String code) {
        String[] banned = {"throw", "throws", "try", "catch", "finally", "synchronized", "assert", "import", "package",
            "volatile", "native", "System\\.out", "Random", "Thread", "Object", "hashCode", "toString", "var"};
        for (String word : banned) {
            Check.holds("no " + word, !Pattern.compile("\\b" + word + "\\b").matcher(code).find());
        }
        for (String sign : List.of("->", "::", "@", "protected")) {
            Check.holds("no " + sign, !code.contains(sign));
        }
        Matcher call = Pattern.compile("\\b(Math|System|Integer|Long|Arrays)\\.(\\w+)").matcher(code);
        List<String> fine = Arrays.asList("Math.abs", "Math.max", "Math.min", "Math.floorMod", "System.arraycopy");
        while (call.find()) {
            Check.holds("rule 4: " + call.group(), fine.contains(call.group()));
        }
    }

    /** A method starts where a line opens a brace behind a bracket, and ends with a brace as far in. */
    private static void lengths(List<String> lines) {
        Pattern head = Pattern.compile("( {4}| {8})(public|private|static|abstract|void|int|boolean|[A-Z]).*\\) \\{");
        for (int i = 0; i < lines.size(); i++) {
            Matcher m = head.matcher(lines.get(i));
            if (!m.matches()) {
                continue;
            }
            int end = i;
            while (end < lines.size() && !lines.get(end).equals(m.group(1) + "}")) {
                end++;
            }
            Check.holds("rule 11: length of line " + (i + 1) + "'s method", end - i < 60);
        }
    }
}
