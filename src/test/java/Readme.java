import java.lang.reflect.InvocationTargetException;
import java.lang.reflect.Method;
import java.util.ArrayList;
import java.util.List;
import java.util.Set;
import java.util.TreeSet;
import java.util.regex.Matcher;
import java.util.regex.Pattern;

/** A text like README.md: its blocks, and whether the calls in it answer what it says that they answer. */
final class Readme {
    /** What stands between two fences. */
    static final class Block {
        final String language;
        final int firstLine;
        final List<String> lines = new ArrayList<>();

        Block(String language, int firstLine) {
            this.language = language;
            this.firstLine = firstLine;
        }

        boolean isProgram() {
            return language.equals("java") && text().contains("class ");
        }

        String text() {
            return String.join("\n", lines) + "\n";
        }
    }

    private static final String FENCE = "```";
    private static final Pattern MADE = Pattern.compile("GobRow row = new GobRow\\(\\);");
    private static final Pattern CALLED = Pattern.compile("row\\.(\\w+)\\(([^()]*)\\); +// (-?\\d+): \\S.*");
    private static final Pattern MENTIONED = Pattern.compile("(\\w+)\\(([^()]*)\\)");
    /** How many calls an object is promised to serve. */
    private static final int CALLS_OF_ONE = 512;

    final List<Block> blocks = new ArrayList<>();
    /** The lines that stand in no block; "" in place of those that do, so that the numbers stay. */
    final List<String> plain = new ArrayList<>();
    final List<String> faults = new ArrayList<>();
    /** The names of the calls that were made, and of those that the plain lines have with their parameters. */
    final Set<String> made = new TreeSet<>();
    final Set<String> told = new TreeSet<>();
    int answers = 0;

    private final Face face;

    Readme(String text, Face face) {
        this.face = face;
        split(text);
        for (Block block : blocks) {
            if (block.language.equals("java") && !block.isProgram()) {
                makeCalls(block);
            }
        }
        for (int k = 0; k < plain.size(); k++) {
            lookAtMentions(plain.get(k), k + 1);
        }
    }

    static List<String> parts(String list) {
        return list.isBlank() ? List.of() : List.of(list.trim().split(" *, *"));
    }

    private void split(String text) {
        Block open = null;
        String[] lines = text.split("\n", -1);
        for (int k = 0; k < lines.length; k++) {
            boolean isFence = lines[k].trim().startsWith(FENCE);
            plain.add(isFence || open != null ? "" : lines[k]);
            if (isFence && open == null) {
                open = new Block(lines[k].trim().substring(FENCE.length()), k + 2);
                blocks.add(open);
            } else if (isFence) {
                open = null;
            } else if (open != null) {
                open.lines.add(lines[k]);
            }
        }
        if (open != null) {
            faults.add("the block from line " + open.firstLine + " on has no end");
        }
    }

    private void makeCalls(Block block) {
        GobRow row = null;
        int calls = 0;
        for (int k = 0; k < block.lines.size(); k++) {
            String line = block.lines.get(k);
            String where = "line " + (block.firstLine + k) + ", " + line.trim() + ": ";
            Matcher call = CALLED.matcher(line);
            if (MADE.matcher(line).matches()) {
                row = new GobRow();
                calls = 0;
            } else if (line.isBlank()) {
                continue;
            } else if (row == null || !call.matches()) {
                faults.add(where + "neither a new object nor a call of it with its answer");
            } else {
                calls++;
                makeCall(row, call, where);
            }
        }
        if (calls == 0 || calls > CALLS_OF_ONE) {
            faults.add("the block from line " + block.firstLine + " on makes " + calls + " calls of its last object");
        }
    }

    private void makeCall(GobRow row, Matcher call, String where) {
        String name = call.group(1);
        List<String> given = parts(call.group(2));
        Face.Call known = face.calls.get(name);
        if (known == null || known.types.size() != given.size()) {
            faults.add(where + "the document has no such call");
            return;
        }
        try {
            Object answer = method(name).invoke(row, values(known, given));
            made.add(name);
            answers++;
            if (!answer.equals(Integer.parseInt(call.group(3)))) {
                faults.add(where + "it answered " + answer);
            }
        } catch (IllegalAccessException | InvocationTargetException | IllegalArgumentException e) {
            faults.add(where + "it could not be made: " + e);
        }
    }

    private static Method method(String name) {
        for (Method method : GobRow.class.getMethods()) {
            if (method.getName().equals(name)) {
                return method;
            }
        }
        throw new IllegalArgumentException("GobRow has no " + name);
    }

    private static Object[] values(Face.Call known, List<String> given) {
        Object[] values = new Object[given.size()];
        for (int k = 0; k < values.length; k++) {
            values[k] = value(known.types.get(k), given.get(k));
        }
        return values;
    }

    private static Object value(String type, String word) {
        if (type.equals("int")) {
            return Integer.valueOf(word);
        }
        if (!word.equals("true") && !word.equals("false")) {
            throw new IllegalArgumentException(word + " is no " + type);
        }
        return Boolean.valueOf(word);
    }

    /** A call with numbers in a plain line would be one that nothing makes: it must stand in a block. */
    private void lookAtMentions(String line, int number) {
        Matcher mention = MENTIONED.matcher(line);
        while (mention.find()) {
            Face.Call known = face.calls.get(mention.group(1));
            if (known == null) {
                continue;
            }
            if (mention.group().equals(known.asTold())) {
                told.add(known.name);
            } else {
                faults.add("line " + number + ", " + mention.group() + ": a call that stands in no block of calls");
            }
        }
    }
}
