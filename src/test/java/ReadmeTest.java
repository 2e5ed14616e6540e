import java.io.IOException;
import java.lang.reflect.Method;
import java.lang.reflect.Modifier;
import java.nio.charset.StandardCharsets;
import java.nio.file.Files;
import java.nio.file.Path;
import java.util.Set;
import java.util.TreeSet;
import java.util.regex.Matcher;
import java.util.regex.Pattern;

/**
 * The calls that README.md shows, each with the answer that stands behind it; a call of the face
 * that the page does not show with an answer, or does not tell in its table, is a failure.
 */
public final class ReadmeTest {
    private static final Pattern NEW_OBJECT = Pattern.compile("KeptInside k = new KeptInside\\(\\);");
    private static final Pattern TYPED = Pattern.compile("for \\(char c : \"([^\"]*)\"\\.toCharArray\\(\\)\\) \\{");
    private static final Pattern CALL = Pattern.compile("k\\.(\\w+)\\(([-0-9, ]*)\\); +// (-?[0-9]+)(: .*)?");
    private static final Pattern OTHER = Pattern.compile("|    k\\.type\\(c\\);|}|// ---- .*");
    private static final Pattern ROW = Pattern.compile("\\| `(\\w+)\\(([a-z, ]*)\\)` \\|.*");

    private static final Set<String> shown = new TreeSet<>(Set.of("type"));
    private static final Set<String> told = new TreeSet<>();
    private static KeptInside k = new KeptInside();

    private ReadmeTest() {
    }

    public static void main(String[] args) throws IOException, ReflectiveOperationException {
        boolean inCode = false;
        for (String line : Files.readAllLines(Path.of("README.md"), StandardCharsets.US_ASCII)) {
            if (line.startsWith("```")) {
                inCode = line.equals("```java");
            } else if (inCode) {
                tryLine(line);
            } else {
                noteRow(line);
            }
        }
        Set<String> face = new TreeSet<>();
        for (Method m : KeptInside.class.getDeclaredMethods()) {
            if (Modifier.isPublic(m.getModifiers())) {
                face.add(m.getName() + " of " + m.getParameterCount());
                holds(m.getName() + " is shown with an answer", shown.contains(m.getName()));
            }
        }
        holds("the table tells " + face + " and no other: " + told, told.equals(face));
        Check.end("ReadmeTest");
    }

    private static void tryLine(String line) throws ReflectiveOperationException {
        Matcher typed = TYPED.matcher(line);
        Matcher call = CALL.matcher(line);
        if (NEW_OBJECT.matcher(line).matches()) {
            k = new KeptInside();
        } else if (typed.matches()) {
            Check.typeAll(k, typed.group(1));
        } else if (call.matches()) {
            shown.add(call.group(1));
            Check.due(line, answer(call.group(1), call.group(2)), Long.parseLong(call.group(3)));
        } else {
            holds("a line that is understood: " + line, OTHER.matcher(line).matches());
        }
    }

    private static long answer(String name, String numbers) throws ReflectiveOperationException {
        String[] each = numbers.isEmpty() ? new String[0] : numbers.split(", ");
        Class<?>[] kinds = new Class<?>[each.length];
        Object[] values = new Object[each.length];
        for (int i = 0; i < each.length; i++) {
            kinds[i] = int.class;
            values[i] = Integer.valueOf(each[i]);
        }
        return ((Number) KeptInside.class.getMethod(name, kinds).invoke(k, values)).longValue();
    }

    private static void noteRow(String line) {
        Matcher row = ROW.matcher(line);
        if (row.matches()) {
            int takes = row.group(2).isEmpty() ? 0 : row.group(2).split(", ").length;
            told.add(row.group(1) + " of " + takes);
        }
    }

    private static void holds(String what, boolean isSo) {
        Check.due(what, isSo ? 1 : 0, 1);
    }
}
