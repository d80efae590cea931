import java.lang.reflect.InvocationTargetException;
import java.lang.reflect.Method;
import java.util.Arrays;
import java.util.Comparator;
import java.util.Set;
import java.util.TreeSet;

/** Runs each method of a class that bears an Edge, so that none can be written and then not be run. */
final class Edges {
    /** A call that takes the number whose boundary is looked at. */
    interface Taking {
        int answer(GobRow row, int number);
    }

    private static final int MIN = Integer.MIN_VALUE;
    private static final int MAX = Integer.MAX_VALUE;

    private static Check check;
    private static String where = "";
    private static String running = "";

    private Edges() { }

    /** Fails too if a promise from first to last has no test. */
    static void run(Class<?> tests, int first, int last) {
        check = new Check(tests.getSimpleName());
        Method[] methods = tests.getDeclaredMethods();
        Arrays.sort(methods, Comparator.comparing(Method::getName));
        Set<Integer> looked = new TreeSet<>();
        for (Method method : methods) {
            Edge edge = method.getAnnotation(Edge.class);
            if (edge != null) {
                looked.add(edge.promise());
                runOne(method, edge);
            }
        }
        for (int promise = first; promise <= last; promise++) {
            check.holds("promise " + promise + " has no test", looked.contains(promise));
        }
        check.end();
    }

    private static void runOne(Method method, Edge edge) {
        where = (edge.promise() == 0 ? "Terms" : "promise " + edge.promise()) + ", \"" + edge.words() + "\", ";
        running = method.getName();
        try {
            method.invoke(null);
        } catch (IllegalAccessException | InvocationTargetException e) {
            check.holds(where + method.getName() + " could not be run to its end: " + e.getCause(), false);
        }
    }

    static void due(int want, int got) {
        check.due(where + line(), want, got);
    }

    static void holds(boolean is) {
        check.holds(where + line() + " does not hold", is);
    }

    /** On a new object each: the outermost numbers that may be are, those next to them are not, nor are far ones. */
    static void range(int least, int most, Taking call) {
        range(least, most, GobRow.NUMBER, call);
    }

    static void range(int least, int most, int refusal, Taking call) {
        String line = line();
        for (int number : new int[] {least, most}) {
            int answer = call.answer(new GobRow(), number);
            check.holds(where + line + " refused " + number + " with " + answer, answer != refusal);
        }
        for (int number : new int[] {least - 1, most + 1, MIN, MAX}) {
            check.due(where + line + " with " + number, refusal, call.answer(new GobRow(), number));
        }
    }

    private static String line() {
        int number = StackWalker.getInstance().walk(frames -> frames
            .filter(frame -> frame.getMethodName().equals(running))
            .findFirst().orElseThrow().getLineNumber());
        return running + ", line " + number + ":";
    }
}
