import java.util.ArrayList;
import java.util.List;

/**
 * "A call that is refused changes nothing": each refusal is looked for in several states, and all that
 * calls show after it is held against what they show without it.
 */
public final class RefusalTest {
    private static final int MIN = Integer.MIN_VALUE;
    private static final int MAX = Integer.MAX_VALUE;
    private static final Check CHECK = new Check("RefusalTest");

    private final String name;
    private final List<Shown.Call> run = new ArrayList<>();
    private Shown before;

    private RefusalTest(String name) {
        this.name = name;
    }

    public static void main(String[] args) {
        RefusalTest[] scenes = {fresh(), busy(), full(), stopped()};
        for (RefusalTest scene : scenes) {
            scene.before = Shown.after(scene.run);
            drumNumbers(scene);
            armNumbers(scene);
            sectionNumbers(scene);
            mouldNumbers(scene);
            cutNumbers(scene);
            questions(scene);
            CHECK.holds("two runs that are the same show the same", scene.before.isAs(Shown.after(scene.run)));
        }
        refusedWhenFresh(scenes[0]);
        refusedWhenBusy(scenes[1]);
        refusedWhenFull(scenes[2]);
        refusedWhenStopped(scenes[3]);
        changesShow(scenes[1]);
        CHECK.end();
    }

    // ---- the states

    private static RefusalTest fresh() {
        return new RefusalTest("new");
    }

    /** Something of all: nothing is as it was at first, nothing is full. */
    private static RefusalTest busy() {
        RefusalTest scene = new RefusalTest("busy");
        scene.first(0, x -> x.law(0, 0, 1, 20));
        scene.first(1, x -> x.law(1, 1, 2, 7));
        scene.first(2, x -> x.law(2, 0, 5, 333));
        scene.first(1, x -> x.set(0, 0, 350, 20));
        scene.first(1, x -> x.turn(3, 100));
        scene.first(1, x -> x.copy(4, 3));
        scene.first(10, x -> x.pace(9));
        scene.knots(20, 10, 99, 200, 300, 7);
        scene.first(3, x -> x.arm(0));
        scene.knots(50, 300, 51, 310);
        scene.first(2, x -> x.arm(1));
        // for ARM 1 these would be clear, for ARMS 0 and 2 not
        scene.knots(10, 340, 200, 500);
        scene.first(5, x -> x.stop(2));
        scene.first(4, x -> x.stop(4));
        scene.first(5, x -> x.start(2));
        scene.first(1, x -> x.aim(1, 700, 2));
        scene.first(1, x -> x.aim(2, 300, 1));
        scene.first(0, x -> x.job(0, 1));
        scene.first(0, x -> x.job(3, 2));
        scene.first(1, x -> x.mould(1, 17));
        scene.first(200, x -> x.rule(1, 3));
        scene.first(0, x -> x.rule(0, 30));
        scene.first(5, x -> x.cut(17));
        scene.first(1, x -> x.glass(2, 9));
        scene.first(2, x -> x.cut(2));
        scene.first(30, x -> x.rule(0, -14));
        scene.first(3, x -> x.cut(3));
        scene.first(1, x -> x.pull(3, true));
        scene.first(1, x -> x.pull(20, true));
        scene.first(5, x -> x.swab(0));
        return scene;
    }

    /** As much of all as may be. */
    private static RefusalTest full() {
        RefusalTest scene = new RefusalTest("full");
        for (int k = 0; k < 7; k++) {
            int act = k;
            scene.first(2 * k, x -> x.law(0, act, act + 1, 20));
            scene.first(2 * k + 1, x -> x.law(2, act, act, 333));
        }
        scene.first(14, x -> x.law(0, 7, 0, 60));
        scene.first(15, x -> x.law(2, 7, 7, 333));
        scene.knots(10, 350, 20, 500, 30, 350, 40, 350, 50, 350, 357, 349);
        scene.first(1, x -> x.glass(3, 50));
        scene.first(88, x -> x.cut(100));
        scene.first(1, x -> x.glass(1, 50));
        return scene;
    }

    /** No SECTION RUNS, nothing is told, and some bottles are on THE BELT. */
    private static RefusalTest stopped() {
        RefusalTest scene = new RefusalTest("stopped");
        scene.first(0, x -> x.rule(0, -50));
        scene.first(0, x -> x.cut(5));
        for (int k = 0; k < 6; k++) {
            int section = k;
            scene.first(5 - k, x -> x.stop(section));
        }
        return scene;
    }

    private void first(int want, Shown.Call call) {
        run.add(call);
        GobRow row = new GobRow();
        int answer = 0;
        for (Shown.Call made : run) {
            answer = made.on(row);
        }
        CHECK.due("the state " + name + ", call " + run.size(), want, answer);
    }

    private void knots(int... knots) {
        for (int k = 0; k < knots.length; k += 2) {
            int degree = knots[k];
            int place = knots[k + 1];
            first(k / 2 + 1, x -> x.knot(degree, place));
        }
    }

    // ---- what is looked for

    private void refused(String call, int want, Shown.Call refused) {
        List<Shown.Call> longer = new ArrayList<>(run);
        int[] answer = new int[1];
        longer.add(x -> answer[0] = refused.on(x));
        Shown after = Shown.after(longer);
        CHECK.due("in the state " + name + " " + call, want, answer[0]);
        CHECK.holds("in the state " + name + " the refused " + call + " changed something", before.isAs(after));
    }

    private void changesNothing(String call, Shown.Call asked) {
        List<Shown.Call> longer = new ArrayList<>(run);
        longer.add(asked);
        CHECK.holds("in the state " + name + " " + call + " changed something", before.isAs(Shown.after(longer)));
    }

    /** What is seen must be seen to change, or nothing could be said of what doesn't. */
    private void changes(String call, Shown.Call taken) {
        List<Shown.Call> longer = new ArrayList<>(run);
        longer.add(taken);
        CHECK.holds("in the state " + name + " " + call + " doesn't show", !before.isAs(Shown.after(longer)));
    }

    // ---- NUMBER, in every state

    private static void drumNumbers(RefusalTest scene) {
        int[][] sets = {{-1, 0, 0, 1}, {6, 0, 0, 1}, {0, -1, 0, 1}, {0, 8, 0, 1}, {0, 0, -1, 1}, {0, 0, 360, 1}, {0, 0, 1, -1},
            {0, 0, 1, 360}, {0, 0, 7, 7}, {5, 7, 359, 359}, {MIN, MIN, MIN, MIN}, {MAX, MAX, MAX, 0}, {0, 0, MIN, MAX}};
        for (int[] w : sets) {
            scene.refused("set" + text(w), GobRow.NUMBER, x -> x.set(w[0], w[1], w[2], w[3]));
            scene.refused("would" + text(w), GobRow.NUMBER, x -> x.would(w[0], w[1], w[2], w[3]));
        }
        int[][] turns = {{-1, 1}, {6, 1}, {0, -360}, {0, 360}, {0, MIN}, {0, MAX}, {MIN, 1}};
        for (int[] w : turns) {
            scene.refused("turn" + text(w), GobRow.NUMBER, x -> x.turn(w[0], w[1]));
        }
        int[][] copies = {{-1, 0}, {6, 0}, {0, -1}, {0, 6}, {MIN, MAX}, {3, MAX}};
        for (int[] w : copies) {
            scene.refused("copy" + text(w), GobRow.NUMBER, x -> x.copy(w[0], w[1]));
        }
        int[][] laws = {{-1, 0, 1, 0}, {4, 0, 1, 0}, {2, -1, 0, 0}, {2, 8, 0, 0}, {2, 0, -1, 0}, {2, 0, 8, 0}, {0, 3, 3, 0},
            {1, 3, 3, 0}, {3, 3, 3, 0}, {0, 0, 1, -1}, {0, 0, 1, 360}, {1, 0, 1, -1}, {1, 0, 1, 60001}, {2, 0, 1, -1},
            {2, 0, 1, 60001}, {3, 0, 1, -1}, {3, 0, 1, 60001}, {MIN, 0, 1, 0}, {2, 0, 0, MAX}};
        for (int[] w : laws) {
            scene.refused("law" + text(w), GobRow.NUMBER, x -> x.law(w[0], w[1], w[2], w[3]));
        }
        for (int p : new int[] {0, 61, MIN, MAX}) {
            scene.refused("pace " + p, GobRow.NUMBER, x -> x.pace(p));
        }
        int[][] acts = {{-1, 0, 0, 0}, {6, 0, 0, 0}, {0, -1, 0, 0}, {0, 8, 0, 0}, {0, 0, -1, 0}, {0, 0, 4, 0}, {0, 0, 3, -1}, {0, 0, 3, 360}};
        for (int[] w : acts) {
            scene.refused("act" + text(w), GobRow.NUMBER, x -> x.act(w[0], w[1], w[2], w[3]));
        }
    }

    private static void armNumbers(RefusalTest scene) {
        for (int arm : new int[] {-1, 3, MIN, MAX}) {
            scene.refused("arm " + arm, GobRow.NUMBER, x -> x.arm(arm));
        }
        int[][] knots = {{-1, 0}, {360, 0}, {358, -1}, {358, 1001}, {MIN, 0}, {MAX, 0}, {358, MIN}, {358, MAX}};
        for (int[] w : knots) {
            scene.refused("knot" + text(w), GobRow.NUMBER, x -> x.knot(w[0], w[1]));
        }
        int[][] places = {{-1, 0, 0}, {3, 0, 0}, {0, -1, 0}, {0, 360, 0}, {0, 0, -1}, {0, 0, 2}, {MIN, MAX, 1}};
        for (int[] w : places) {
            scene.refused("place" + text(w), GobRow.NUMBER, x -> x.place(w[0], w[1], w[2]));
        }
        int[][] pairs = {{0, 0}, {1, 0}, {2, 0}, {2, 1}, {-1, 0}, {0, 3}, {2, 3}, {MIN, MAX}};
        for (int[] w : pairs) {
            scene.refused("nearest" + text(w), GobRow.NUMBER, x -> x.nearest(w[0], w[1]));
        }
    }

    private static void sectionNumbers(RefusalTest scene) {
        for (int section : new int[] {-1, 6, MIN, MAX}) {
            scene.refused("stop " + section, GobRow.NUMBER, x -> x.stop(section));
            scene.refused("start " + section, GobRow.NUMBER, x -> x.start(section));
        }
        int[][] jobs = {{-1, 1}, {6, 1}, {0, -1}, {0, 4}, {MIN, 1}, {5, MAX}};
        for (int[] w : jobs) {
            scene.refused("job" + text(w), GobRow.NUMBER, x -> x.job(w[0], w[1]));
        }
        int[][] aims = {{-1, 400, 1}, {4, 400, 1}, {0, 99, 1}, {0, 901, 1}, {0, 400, -1}, {0, 400, 4}, {MAX, 400, 1}, {3, MIN, 1}, {3, 400, MAX}};
        for (int[] w : aims) {
            scene.refused("aim" + text(w), GobRow.NUMBER, x -> x.aim(w[0], w[1], w[2]));
        }
        // for each COLOUR, so for the one that GLASS has too: NUMBER is named ahead of TWICE
        int[][] glasses = {{-1, 5}, {4, 5}, {MIN, 5}, {0, -1}, {0, 51}, {1, -1}, {1, 51}, {2, -1}, {2, 51}, {3, -1}, {3, 51}, {2, MAX}};
        for (int[] w : glasses) {
            scene.refused("glass" + text(w), GobRow.NUMBER, x -> x.glass(w[0], w[1]));
        }
    }

    private static void mouldNumbers(RefusalTest scene) {
        int[][] changes = {{-1, 25}, {6, 25}, {0, -1}, {0, 30}, {6, 0}, {-1, 5}, {MIN, MIN}, {MAX, 0}, {0, MAX}};
        for (int[] w : changes) {
            scene.refused("mould" + text(w), GobRow.NUMBER, x -> x.mould(w[0], w[1]));
        }
        for (int mould : new int[] {-1, 30, MIN, MAX}) {
            scene.refused("swab " + mould, GobRow.NUMBER, x -> x.swab(mould));
            scene.refused("repair " + mould, GobRow.NUMBER, x -> x.repair(mould));
            scene.refused("pull true " + mould, GobRow.NUMBER, x -> x.pull(mould, true));
            scene.refused("pull false " + mould, GobRow.NUMBER, x -> x.pull(mould, false));
            scene.refused("book " + mould, GobRow.NUMBER, x -> x.book(mould, 0));
        }
        int[][] rules = {{-1, 5}, {2, 5}, {0, -201}, {0, 201}, {1, 0}, {1, 1001}, {0, MIN}, {1, MAX}, {MIN, 5}};
        for (int[] w : rules) {
            scene.refused("rule" + text(w), -1000, x -> x.rule(w[0], w[1]));
        }
        scene.refused("book(0, -1)", GobRow.NUMBER, x -> x.book(0, -1));
        scene.refused("book(0, 6)", GobRow.NUMBER, x -> x.book(0, 6));
    }

    private static void cutNumbers(RefusalTest scene) {
        for (int n : new int[] {0, -1, 101, MIN, MAX}) {
            scene.refused("cut " + n, GobRow.NUMBER, x -> x.cut(n));
        }
        int[][] bottles = {{-1, 0}, {12, 0}, {0, -1}, {0, 6}, {MIN, 0}, {MAX, 0}};
        for (int[] w : bottles) {
            scene.refused("bottle" + text(w), GobRow.NUMBER, x -> x.bottle(w[0], w[1]));
        }
        for (int what : new int[] {-1, 16, MIN, MAX}) {
            scene.refused("many " + what, -1, x -> x.many(what));
        }
    }

    // ---- the other refusals, each in a state that has it

    private static void refusedWhenFresh(RefusalTest scene) {
        scene.refused("repeal", GobRow.NONE, x -> x.repeal());
        scene.refused("law WITHIN", GobRow.LAW, x -> x.law(3, 0, 1, 0));
        scene.refused("law AHEAD", GobRow.LAW, x -> x.law(0, 0, 1, 21));
        scene.refused("law LONG", GobRow.LAW, x -> x.law(2, 3, 3, 60000));
        scene.refused("bottle(0, 0)", GobRow.NUMBER, x -> x.bottle(0, 0));
        scene.refused("glass(0, 0)", GobRow.TWICE, x -> x.glass(0, 0));
        scene.refused("glass(0, 50)", GobRow.TWICE, x -> x.glass(0, 50));
        for (int k = 0; k < 6; k++) {
            int section = k;
            scene.refused("start " + k, GobRow.TWICE, x -> x.start(section));
            scene.refused("mould(" + k + ", " + k + ")", GobRow.TWICE, x -> x.mould(section, section));
            scene.refused("mould(0, " + k + ")", GobRow.TWICE, x -> x.mould(0, section));
        }
        for (int k = 0; k < 3; k++) {
            int arm = k;
            scene.refused("arm " + k, GobRow.NONE, x -> x.arm(arm));
        }
    }

    private static void refusedWhenBusy(RefusalTest scene) {
        scene.refused("set against LAW 0", GobRow.LAW, x -> x.set(0, 0, 340, 21));
        scene.refused("set against LAW 1", GobRow.LAW - 1, x -> x.set(0, 2, 59, 61));
        scene.refused("set against LAW 2", GobRow.LAW - 2, x -> x.set(0, 0, 10, 20));
        scene.refused("set against LAWS 0 and 2", GobRow.LAW, x -> x.set(0, 0, 20, 21));
        scene.refused("law that would be LAW 3", GobRow.LAW - 3, x -> x.law(3, 0, 1, 0));
        scene.refused("pace", GobRow.LAW - 2, x -> x.pace(11));
        scene.refused("pace 60", GobRow.LAW - 2, x -> x.pace(60));
        scene.refused("arm 0", GobRow.NEAR, x -> x.arm(0));
        scene.refused("arm 2", GobRow.NEAR, x -> x.arm(2));
        scene.refused("knot at the DEGREE told latest", GobRow.NUMBER, x -> x.knot(200, 5));
        scene.refused("knot ahead of it", GobRow.NUMBER, x -> x.knot(199, 5));
        scene.refused("knot at 0", GobRow.NUMBER, x -> x.knot(0, 5));
        scene.refused("stop", GobRow.TWICE, x -> x.stop(4));
        scene.refused("start", GobRow.TWICE, x -> x.start(2));
        scene.refused("start 0", GobRow.TWICE, x -> x.start(0));
        scene.refused("glass", GobRow.TWICE, x -> x.glass(2, 1));
        scene.refused("mould that the SECTION has", GobRow.TWICE, x -> x.mould(1, 17));
        scene.refused("mould of another SECTION", GobRow.TWICE, x -> x.mould(0, 17));
        scene.refused("mould of a SECTION that doesn't RUN", GobRow.TWICE, x -> x.mould(0, 4));
    }

    private static void refusedWhenFull(RefusalTest scene) {
        scene.refused("law", GobRow.FULL, x -> x.law(2, 0, 0, 0));
        scene.refused("law that would be broken", GobRow.FULL, x -> x.law(3, 0, 1, 0));
        scene.refused("knot", GobRow.FULL, x -> x.knot(358, 350));
        scene.refused("knot at 359", GobRow.FULL, x -> x.knot(359, 0));
        scene.refused("knot at the DEGREE told latest", GobRow.NUMBER, x -> x.knot(357, 350));
        scene.refused("set against LAW 0", GobRow.LAW, x -> x.set(0, 0, 0, 21));
        scene.refused("arm 2", GobRow.NEAR, x -> x.arm(2));
        scene.refused("arm 0", GobRow.NEAR, x -> x.arm(0));
        scene.refused("set against LAW 15", GobRow.LAW - 15, x -> x.set(5, 7, 281, 300));
        scene.refused("set against LAW 14", GobRow.LAW - 14, x -> x.set(5, 7, 280, 301));
        scene.refused("pace", GobRow.LAW - 1, x -> x.pace(11));
        scene.refused("glass", GobRow.TWICE, x -> x.glass(1, 0));
    }

    private static void refusedWhenStopped(RefusalTest scene) {
        scene.refused("cut 1", GobRow.NONE, x -> x.cut(1));
        scene.refused("cut 100", GobRow.NONE, x -> x.cut(100));
        scene.refused("bottle 5", GobRow.NUMBER, x -> x.bottle(5, 0));
        scene.refused("repeal", GobRow.NONE, x -> x.repeal());
        for (int k = 0; k < 6; k++) {
            int section = k;
            scene.refused("stop " + k, GobRow.TWICE, x -> x.stop(section));
            scene.refused("mould(5, " + k + ")", GobRow.TWICE, x -> x.mould(5, section));
        }
    }

    // ---- calls that only ask, and calls that change something

    private static void questions(RefusalTest scene) {
        scene.changesNothing("fastest", x -> x.fastest());
        scene.changesNothing("would that is allowed", x -> x.would(0, 7, 280, 300));
        scene.changesNothing("would that is not", x -> x.would(0, 0, 20, 21));
        scene.changesNothing("act", x -> x.act(5, 7, 3, 359));
        scene.changesNothing("place", x -> x.place(2, 359, 0));
        scene.changesNothing("nearest", x -> x.nearest(0, 2));
        for (int k = 0; k < 16; k++) {
            int what = k;
            scene.changesNothing("many " + what, x -> x.many(what));
            scene.changesNothing("bottle(0, " + what + ")", x -> x.bottle(0, what));
            scene.changesNothing("book(29, " + what + ")", x -> x.book(29, what));
        }
    }

    private static void changesShow(RefusalTest scene) {
        scene.changes("set", x -> x.set(5, 7, 281, 300));
        scene.changes("turn", x -> x.turn(5, 1));
        scene.changes("copy", x -> x.copy(5, 3));
        scene.changes("law", x -> x.law(1, 0, 1, 0));
        scene.changes("repeal", x -> x.repeal());
        scene.changes("pace", x -> x.pace(8));
        scene.changes("arm", x -> x.arm(1));
        scene.changes("knot", x -> x.knot(300, 450));
        scene.changes("forget", x -> x.forget());
        scene.changes("stop", x -> x.stop(5));
        scene.changes("start", x -> x.start(4));
        scene.changes("job", x -> x.job(4, 3));
        scene.changes("aim", x -> x.aim(3, 501, 0));
        scene.changes("COLOUR of a JOB", x -> x.aim(3, 500, 3));
        scene.changes("glass", x -> x.glass(3, 7));
        scene.changes("mould", x -> x.mould(5, 29));
        scene.changes("swab", x -> x.swab(5));
        scene.changes("repair", x -> x.repair(20));
        scene.changes("pull", x -> x.pull(29, true));
        scene.changes("DRIFT", x -> x.rule(0, -15));
        scene.changes("LASTS", x -> x.rule(1, 4));
        scene.changes("cut", x -> x.cut(1));
        scene.changes("drain", x -> x.drain());
    }

    private static String text(int[] numbers) {
        StringBuilder text = new StringBuilder("(");
        for (int k = 0; k < numbers.length; k++) {
            text.append(k == 0 ? "" : ", ").append(numbers[k]);
        }
        return text.append(")").toString();
    }
}
