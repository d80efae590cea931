import java.io.IOException;
import java.nio.file.Files;
import java.nio.file.Path;
import java.util.ArrayList;
import java.util.List;
import java.util.Map;
import java.util.TreeMap;
import java.util.regex.Matcher;
import java.util.regex.Pattern;

/** The public face as the document writes it, so that no test keeps a list of its own. */
final class Face {
    /** A call with its types and its names. */
    static final class Call {
        final String name;
        final List<String> types = new ArrayList<>();
        final List<String> names = new ArrayList<>();

        Call(String name, String parameters) {
            this.name = name;
            for (String parameter : Readme.parts(parameters)) {
                String[] words = parameter.split(" ");
                types.add(words[0]);
                names.add(words[1]);
            }
        }

        /** As it stands in a text: set(section, act, on, off). */
        String asTold() {
            return name + "(" + String.join(", ", names) + ")";
        }

        /** As reflection tells it: int set(int, int, int, int). */
        String asTyped() {
            return "int " + name + "(" + String.join(", ", types) + ")";
        }
    }

    private static final Path DOCUMENT = Path.of("../shared/DOC.md");
    private static final Pattern CONSTANT = Pattern.compile("public static final int (\\w+) = (-?\\d+);");
    private static final Pattern CALL = Pattern.compile("public int (\\w+)\\(([^)]*)\\);");
    private static final Pattern FRAME = Pattern.compile("public final class GobRow \\{|public GobRow\\(\\);|\\}|");

    final Map<String, Integer> constants = new TreeMap<>();
    final Map<String, Call> calls = new TreeMap<>();
    final List<String> unread = new ArrayList<>();

    static Face ofDocument() throws IOException {
        String text = Files.readString(DOCUMENT);
        int from = text.indexOf("```java");
        int to = text.indexOf("```", from + 3);
        return new Face(text.substring(text.indexOf('\n', from), to));
    }

    private Face(String block) {
        for (String line : block.split("\n")) {
            read(line.trim());
        }
    }

    private void read(String line) {
        Matcher constant = CONSTANT.matcher(line);
        Matcher call = CALL.matcher(line);
        if (constant.matches()) {
            constants.put(constant.group(1), Integer.parseInt(constant.group(2)));
        } else if (call.matches()) {
            calls.put(call.group(1), new Call(call.group(1), call.group(2)));
        } else if (!FRAME.matcher(line).matches()) {
            unread.add(line);
        }
    }
}
