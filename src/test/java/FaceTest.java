import java.io.IOException;
import java.lang.reflect.Constructor;
import java.lang.reflect.Field;
import java.lang.reflect.Method;
import java.lang.reflect.Modifier;
import java.nio.file.Files;
import java.nio.file.Path;
import java.util.ArrayList;
import java.util.List;
import java.util.Map;
import java.util.Set;
import java.util.TreeMap;
import java.util.TreeSet;
import java.util.regex.Pattern;

/** The public face of GobRow, and those rules of the language that can be seen from outside. */
public final class FaceTest {
    private static final Check CHECK = new Check("FaceTest");

    public static void main(String[] args) throws IOException {
        Face face = Face.ofDocument();
        CHECK.holds("lines of the document's face that could not be read: " + face.unread, face.unread.isEmpty());
        constants(face);
        members(face);
        inside(face);
        text();
        CHECK.end();
    }

    private static void constants(Face face) {
        CHECK.due("NUMBER", -1, GobRow.NUMBER);
        CHECK.due("FULL", -2, GobRow.FULL);
        CHECK.due("TWICE", -3, GobRow.TWICE);
        CHECK.due("NONE", -4, GobRow.NONE);
        CHECK.due("NEAR", -5, GobRow.NEAR);
        CHECK.due("LAW", -100, GobRow.LAW);
        Map<String, Integer> constants = new TreeMap<>();
        for (Field field : GobRow.class.getDeclaredFields()) {
            if (!Modifier.isPrivate(field.getModifiers())) {
                CHECK.holds(field + " is public and static", Modifier.isPublic(field.getModifiers())
                    && Modifier.isStatic(field.getModifiers()));
                constants.put(field.getName(), valueOf(field));
            }
            CHECK.holds(field + " is final if it is static", !Modifier.isStatic(field.getModifiers())
                || Modifier.isFinal(field.getModifiers()));
        }
        CHECK.holds("constants: " + constants, constants.equals(face.constants));
    }

    private static Integer valueOf(Field field) {
        try {
            return field.getType() == int.class ? (Integer) field.getInt(null) : null;
        } catch (IllegalAccessException e) {
            return null;
        }
    }

    private static void members(Face face) {
        CHECK.holds("GobRow is public and final", Modifier.isPublic(GobRow.class.getModifiers())
            && Modifier.isFinal(GobRow.class.getModifiers()));
        CHECK.holds("GobRow extends and implements nothing", GobRow.class.getSuperclass() == Object.class
            && GobRow.class.getInterfaces().length == 0);
        Set<String> methods = new TreeSet<>();
        for (Method method : GobRow.class.getDeclaredMethods()) {
            if (!Modifier.isPrivate(method.getModifiers())) {
                methods.add(asTyped(method));
                CHECK.holds(method + " is public and throws nothing", Modifier.isPublic(method.getModifiers())
                    && !Modifier.isStatic(method.getModifiers()) && method.getExceptionTypes().length == 0);
            }
        }
        Set<String> due = new TreeSet<>();
        face.calls.values().forEach(call -> due.add(call.asTyped()));
        CHECK.due("calls of the document's face", 29, due.size());
        CHECK.holds("methods: " + methods + ", due are " + due, methods.equals(due));
        Constructor<?>[] constructors = GobRow.class.getDeclaredConstructors();
        CHECK.holds("one public constructor without parameters", constructors.length == 1
            && Modifier.isPublic(constructors[0].getModifiers()) && constructors[0].getParameterCount() == 0);
    }

    private static String asTyped(Method method) {
        List<String> types = new ArrayList<>();
        for (Class<?> type : method.getParameterTypes()) {
            types.add(type.getName());
        }
        return method.getReturnType().getName() + " " + method.getName() + "(" + String.join(", ", types) + ")";
    }

    private static void inside(Face face) {
        Set<String> faceNames = face.calls.keySet();
        Class<?>[] classes = GobRow.class.getDeclaredClasses();
        CHECK.holds("at most twelve classes", classes.length + 1 <= 12);
        for (Class<?> inner : classes) {
            CHECK.holds(inner + " is static and not public", Modifier.isStatic(inner.getModifiers())
                && !Modifier.isPublic(inner.getModifiers()) && !Modifier.isProtected(inner.getModifiers()));
            for (Method method : inner.getDeclaredMethods()) {
                CHECK.holds(method + " bears no name of the face", !faceNames.contains(method.getName()));
            }
        }
        for (Method method : GobRow.class.getDeclaredMethods()) {
            CHECK.holds(method + " bears no name of the face", !Modifier.isPrivate(method.getModifiers())
                || !faceNames.contains(method.getName()));
            CHECK.holds(method + " takes at most seven", method.getParameterCount() <= 7);
        }
    }

    private static void text() throws IOException {
        String source = Files.readString(Path.of("src/main/java/GobRow.java"));
        String code = source.replaceAll("(?s)/\\*.*?\\*/", " ").replaceAll("//[^\n]*", " ");
        List<String> forbidden = List.of("\\bthrow\\b", "\\btry\\b", "\\bcatch\\b", "\\bsynchronized\\b", "\\bassert\\b",
            "->", "::", "\\bimport\\b", "\\bpackage\\b", "\\bObject\\b", "\\w+Exact\\b", "\\bthrows\\b", "\\bprotected\\b",
            "\\bRandom\\b", "\\bSystem\\b", "\\bThread\\b");
        for (String word : forbidden) {
            CHECK.holds("the code has no " + word, !Pattern.compile(word).matcher(code).find());
        }
        CHECK.holds("the text holds characters 0 to 255 alone", source.chars().allMatch(c -> c < 256));
    }
}
