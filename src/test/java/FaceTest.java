import java.io.IOException;
import java.lang.reflect.Constructor;
import java.lang.reflect.Field;
import java.lang.reflect.Method;
import java.lang.reflect.Modifier;
import java.nio.file.Files;
import java.nio.file.Path;
import java.util.Arrays;
import java.util.List;
import java.util.Set;
import java.util.TreeSet;
import java.util.regex.Pattern;

/** The public face of GobRow, and those rules of the language that can be seen from outside. */
public final class FaceTest {
    private static final Check CHECK = new Check("FaceTest");
    private static final String[] METHODS = {"set 4", "turn 2", "copy 2", "law 4", "repeal 0", "pace 1", "fastest 0",
        "act 4", "would 4", "arm 1", "knot 2", "forget 0", "place 3", "nearest 2", "stop 1", "start 1", "job 2", "aim 3",
        "glass 2", "mould 2", "swab 1", "repair 1", "pull 2", "rule 2", "book 2", "cut 1", "drain 0", "bottle 2", "many 1"};
    private static final String[] CONSTANTS = {"NUMBER", "FULL", "TWICE", "NONE", "NEAR", "LAW"};

    public static void main(String[] args) throws IOException {
        constants();
        members();
        inside();
        text();
        CHECK.end();
    }

    private static void constants() {
        CHECK.due("NUMBER", -1, GobRow.NUMBER);
        CHECK.due("FULL", -2, GobRow.FULL);
        CHECK.due("TWICE", -3, GobRow.TWICE);
        CHECK.due("NONE", -4, GobRow.NONE);
        CHECK.due("NEAR", -5, GobRow.NEAR);
        CHECK.due("LAW", -100, GobRow.LAW);
    }

    private static void members() {
        CHECK.holds("GobRow is public and final", Modifier.isPublic(GobRow.class.getModifiers())
            && Modifier.isFinal(GobRow.class.getModifiers()));
        Set<String> methods = new TreeSet<>();
        for (Method method : GobRow.class.getDeclaredMethods()) {
            if (!Modifier.isPrivate(method.getModifiers())) {
                methods.add(method.getName() + " " + method.getParameterCount());
                CHECK.holds(method + " is public, answers an int and throws nothing", method.getReturnType() == int.class
                    && Modifier.isPublic(method.getModifiers()) && !Modifier.isStatic(method.getModifiers())
                    && method.getExceptionTypes().length == 0);
            }
        }
        CHECK.holds("methods: " + methods, methods.equals(new TreeSet<>(Arrays.asList(METHODS))));
        Set<String> fields = new TreeSet<>();
        for (Field field : GobRow.class.getDeclaredFields()) {
            if (!Modifier.isPrivate(field.getModifiers())) {
                fields.add(field.getName());
            }
            CHECK.holds(field + " is final if it is static", !Modifier.isStatic(field.getModifiers())
                || Modifier.isFinal(field.getModifiers()));
        }
        CHECK.holds("constants: " + fields, fields.equals(new TreeSet<>(Arrays.asList(CONSTANTS))));
        Constructor<?>[] constructors = GobRow.class.getDeclaredConstructors();
        CHECK.holds("one public constructor without parameters", constructors.length == 1
            && Modifier.isPublic(constructors[0].getModifiers()) && constructors[0].getParameterCount() == 0);
    }

    private static void inside() {
        Set<String> faceNames = new TreeSet<>();
        for (String method : METHODS) {
            faceNames.add(method.substring(0, method.indexOf(' ')));
        }
        Class<?>[] classes = GobRow.class.getDeclaredClasses();
        CHECK.holds("at most twelve classes", classes.length + 1 <= 12);
        for (Class<?> inner : classes) {
            CHECK.holds(inner + " is static and not public", Modifier.isStatic(inner.getModifiers())
                && !Modifier.isPublic(inner.getModifiers()) && !Modifier.isProtected(inner.getModifiers()));
            for (Method method : inner.getDeclaredMethods()) {
                CHECK.holds(method + " bears no name of the face", !faceNames.contains(method.getName()));
            }
        }
        for (Method method : GobRow.class.getDeclaredMethods()) {
            CHECK.holds(method + " bears no name of the face", !Modifier.isPrivate(method.getModifiers())
                || !faceNames.contains(method.getName()));
            CHECK.holds(method + " takes at most seven", method.getParameterCount() <= 7);
        }
    }

    private static void text() throws IOException {
        String source = Files.readString(Path.of("src/main/java/GobRow.java"));
        String code = source.replaceAll("(?s)/\\*.*?\\*/", " ").replaceAll("//[^\n]*", " ");
        List<String> forbidden = List.of("\\bthrow\\b", "\\btry\\b", "\\bcatch\\b", "\\bsynchronized\\b", "\\bassert\\b",
            "->", "::", "\\bimport\\b", "\\bpackage\\b", "\\bObject\\b", "\\w+Exact\\b", "\\bthrows\\b", "\\bprotected\\b",
            "\\bRandom\\b", "\\bSystem\\b", "\\bThread\\b");
        for (String word : forbidden) {
            CHECK.holds("the code has no " + word, !Pattern.compile(word).matcher(code).find());
        }
        CHECK.holds("the text holds characters 0 to 255 alone", source.chars().allMatch(c -> c < 256));
    }
}
