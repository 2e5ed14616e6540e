import java.io.IOException;
import java.lang.reflect.Constructor;
import java.lang.reflect.Field;
import java.lang.reflect.Method;
import java.lang.reflect.Modifier;
import java.nio.file.Files;
import java.nio.file.Path;
import java.util.Arrays;
import java.util.List;
import java.util.Set;
import java.util.TreeSet;
import java.util.regex.Matcher;
import java.util.regex.Pattern;

/** The document's public face, and the rules of LANGUAGE.md that can be seen without reading closely. */
public final class FaceTest {
    private static final List<String> FACE = List.of(
        "int type(int)", "int clear()", "int reads()", "int drops(int,int)", "int swaps(int,int)",
        "int of(int,int)", "int line(int,int,int)", "int site(int,int)", "int may(int,int)", "int open()",
        "int reached(int,int)", "int fates(int)", "int run(int)", "int ran(int,int)", "int held()",
        "int back()", "int told(int)", "long digest()");
    private static final List<String> CONSTANTS = List.of("NONE", "BAD", "NO", "FULL");
    private static final List<String> WORDS_RULED_OUT = List.of(
        "throw", "throws", "try", "catch", "finally", "synchronized", "assert", "native", "volatile", "protected",
        "Object", "Exception", "System.out", "System.nanoTime", "Random", "hashCode", "toString", "equals");

    private FaceTest() {
    }

    public static void main(String[] args) throws IOException {
        classes();
        methods();
        fields();
        source();
        Check.end("FaceTest");
    }

    private static void holds(String what, boolean isSo) {
        Check.due(what, isSo ? 1 : 0, 1);
    }

    private static void classes() {
        holds("public final class", Modifier.isPublic(KeptInside.class.getModifiers())
            && Modifier.isFinal(KeptInside.class.getModifiers()));
        Constructor<?>[] constructors = KeptInside.class.getDeclaredConstructors();
        Check.due("constructors", constructors.length, 1);
        holds("a public constructor of none", Modifier.isPublic(constructors[0].getModifiers())
            && constructors[0].getParameterCount() == 0);
        Class<?>[] inside = KeptInside.class.getDeclaredClasses();
        holds("twelve classes at most", inside.length <= 11);
        for (Class<?> c : inside) {
            holds(c + " is static", Modifier.isStatic(c.getModifiers()));
            holds(c + " has some twenty fields at most", c.getDeclaredFields().length <= 24);
        }
    }

    private static void methods() {
        Set<String> open = new TreeSet<>();
        for (Method m : KeptInside.class.getDeclaredMethods()) {
            StringBuilder told = new StringBuilder(m.getReturnType() + " " + m.getName() + "(");
            for (int p = 0; p < m.getParameterCount(); p++) {
                told.append(p == 0 ? "" : ",").append(m.getParameterTypes()[p]);
            }
            told.append(')');
            if (Modifier.isPublic(m.getModifiers())) {
                open.add(told.toString());
            } else {
                holds(told + " is private", Modifier.isPrivate(m.getModifiers()));
                holds(told + " bears a name of its own", FACE.stream().noneMatch(f -> f.contains(" " + m.getName() + "(")));
            }
            holds(told + " takes seven at most", m.getParameterCount() <= 7);
        }
        holds("the public methods are " + open, open.equals(new TreeSet<>(FACE)));
    }

    private static void fields() {
        Set<String> open = new TreeSet<>();
        for (Field f : KeptInside.class.getDeclaredFields()) {
            if (Modifier.isPublic(f.getModifiers())) {
                open.add(f.getName());
                holds(f + " is a constant int", Modifier.isStatic(f.getModifiers())
                    && Modifier.isFinal(f.getModifiers()) && f.getType() == int.class);
            } else {
                holds(f + " is private", Modifier.isPrivate(f.getModifiers()));
                holds(f + " is final, if static", !Modifier.isStatic(f.getModifiers()) || Modifier.isFinal(f.getModifiers()));
            }
        }
        holds("the public constants are " + open, open.equals(new TreeSet<>(CONSTANTS)));
    }

    private static void source() throws IOException {
        String source = Files.readString(Path.of("src/main/java/KeptInside.java"));
        String code = source.replaceAll("(?s)/\\*.*?\\*/", "").replaceAll("//[^\n]*", "");
        for (String word : WORDS_RULED_OUT) {
            holds("no " + word, !Pattern.compile("\\b" + Pattern.quote(word) + "\\b").matcher(code).find());
        }
        holds("no lambda, no method reference", !code.contains("->") && !code.contains("::"));
        holds("plain signs alone", source.chars().allMatch(c -> c == '\n' || c >= 32 && c < 127));
        Matcher imports = Pattern.compile("import ([^;]+);").matcher(code);
        while (imports.find()) {
            holds("import " + imports.group(1), Set.of("java.util.Arrays").contains(imports.group(1)));
        }
        Matcher calls = Pattern.compile("\\b(Arrays|System|Math|Integer|Long)\\.(\\w+)").matcher(code);
        List<String> listed = Arrays.asList("fill", "copyOf", "arraycopy", "max", "min");
        while (calls.find()) {
            holds("call of " + calls.group(), listed.contains(calls.group(2)));
        }
    }
}
