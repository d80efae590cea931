import java.util.Random;

/**
 * Long runs of calls, the same for every run of the test, on a GobRow and on the Model side by side:
 * every answer must be the same. Refused calls are among them, so what one of them changed would show.
 */
public final class ModelTest {
    private static final int RUNS = 480;
    /** What the document allows an object, less the most calls that one step of a run makes. */
    private static final int CALLS = 512 - 10;
    private static final int ALL_THEMES = 3;

    private final Check check;
    private final Random random;
    private GobRow row;
    private Model model;
    private String where;
    private int calls = 0;

    private ModelTest(Check check, long seed) {
        this.check = check;
        this.random = new Random(seed);
    }

    public static void main(String[] args) {
        Check check = new Check("ModelTest");
        for (int run = 0; run < RUNS && check.wrong() == 0; run++) {
            new ModelTest(check, 7919L * run + 1).run(run);
        }
        check.end();
    }

    private void run(int number) {
        row = new GobRow();
        model = new Model();
        // Runs with one theme go deeper into it than those with all of them.
        int theme = number % (ALL_THEMES + 1);
        where = "run " + number + ", call ";
        while (calls < CALLS && check.wrong() == 0) {
            int part = theme == ALL_THEMES || random.nextInt(12) == 0 ? random.nextInt(3) : theme;
            if (part == 0) {
                drumCall();
            } else if (part == 1) {
                armCall();
            } else {
                cutCall();
            }
        }
    }

    private void due(String call, int want, int got) {
        calls++;
        check.due(where + calls + ": " + call, want, got);
    }

    private boolean seldom() {
        return random.nextInt(25) == 0;
    }

    /** Mostly least to most, at times one beyond, seldom far beyond. */
    private int about(int least, int most) {
        if (!seldom()) {
            return least + random.nextInt(most - least + 1);
        }
        int[] odd = {least - 1, most + 1, least, most, Integer.MIN_VALUE, Integer.MAX_VALUE};
        return odd[random.nextInt(odd.length)];
    }

    private void drumCall() {
        switch (random.nextInt(14)) {
            case 0, 1, 2, 3 -> setOrWould(true);
            case 4 -> setOrWould(false);
            case 5 -> {
                int s = about(0, 5);
                int by = about(-359, 359);
                due("turn(" + s + ", " + by + ")", model.turn(s, by), row.turn(s, by));
            }
            case 6 -> {
                int s = about(0, 5);
                int o = about(0, 5);
                due("copy(" + s + ", " + o + ")", model.copy(s, o), row.copy(s, o));
            }
            case 7, 8 -> lawCall();
            case 9 -> {
                if (random.nextInt(3) == 0) {
                    due("repeal()", model.repeal(), row.repeal());
                }
            }
            case 10 -> {
                int p = random.nextBoolean() ? about(1, 60) : model.fastest() + random.nextInt(3) - 1;
                due("pace(" + p + ")", model.pace(p), row.pace(p));
            }
            case 11 -> due("fastest()", model.fastest(), row.fastest());
            case 12 -> {
                int s = about(0, 5);
                int a = about(0, 7);
                int w = about(0, 3);
                int d = random.nextBoolean() || Model.out(s, 0, 5) || Model.out(a, 0, 7)
                    ? about(0, 359) : nearEdge(model.drums[s][a]);
                due("act(" + s + ", " + a + ", " + w + ", " + d + ")", model.act(s, a, w, d), row.act(s, a, w, d));
            }
            default -> manyCall();
        }
    }

    private int nearEdge(Model.Act act) {
        return ((random.nextBoolean() ? act.on : act.off) + random.nextInt(3) + 359) % 360;
    }

    private void setOrWould(boolean isSet) {
        int s = about(0, 5);
        int a = about(0, 7);
        int on = about(0, 359);
        int off = about(0, 359);
        if (random.nextInt(3) > 0) {
            Model.Act other = model.drums[random.nextInt(6)][random.nextInt(8)];
            on = nearEdge(other);
            off = random.nextBoolean() ? nearEdge(other) : nearEdge(model.drums[random.nextInt(6)][random.nextInt(8)]);
        }
        String text = "(" + s + ", " + a + ", " + on + ", " + off + ")";
        due("would" + text, model.would(s, a, on, off), row.would(s, a, on, off));
        if (isSet) {
            due("set" + text, model.set(s, a, on, off), row.set(s, a, on, off));
        }
    }

    private void lawCall() {
        int kind = about(0, 3);
        int a = about(0, 7);
        int b = about(0, 7);
        int n = kind == 0 ? about(0, 359) : about(0, 60000);
        if (!Model.out(a, 0, 7) && !Model.out(b, 0, 7) && !seldom()) {
            int least = Integer.MAX_VALUE;
            for (Model.Act[] drum : model.drums) {
                int bound = kind == 0 ? Model.up(drum[a].off, drum[b].on) : drum[a].degrees * 500 / (3 * model.pace);
                least = Math.min(least, bound);
            }
            n = random.nextBoolean() ? least + random.nextInt(3) - 1 : random.nextInt(least + 1);
        }
        String text = "law(" + kind + ", " + a + ", " + b + ", " + n + ")";
        due(text, model.law(kind, a, b, n), row.law(kind, a, b, n));
    }

    private void armCall() {
        switch (random.nextInt(12)) {
            case 0, 1, 2 -> knotsCall();
            case 3, 4 -> {
                int a = about(0, 2);
                due("arm(" + a + ")", model.arm(a), row.arm(a));
            }
            case 5 -> {
                if (random.nextInt(3) == 0) {
                    due("forget()", model.forget(), row.forget());
                }
            }
            case 6, 7, 8 -> {
                int a = about(0, 2);
                int d = about(0, 359);
                due("place(" + a + ", " + d + ", 0)", model.place(a, d, 0), row.place(a, d, 0));
                int w = about(0, 1);
                due("place(" + a + ", " + d + ", " + w + ")", model.place(a, d, w), row.place(a, d, w));
            }
            default -> {
                int i = seldom() ? about(0, 2) : random.nextInt(2);
                int j = seldom() ? about(0, 2) : i + 1 + random.nextInt(2);
                due("nearest(" + i + ", " + j + ")", model.nearest(i, j), row.nearest(i, j));
            }
        }
    }

    /** Tells KNOTS for one ARM that mostly keep off the others, at times by exactly 50. */
    private void knotsCall() {
        int arm = random.nextInt(3);
        int degree = random.nextInt(90);
        int count = 1 + random.nextInt(7);
        int level = -1;
        for (int k = 0; k < count && degree < 362; k++) {
            int place = level >= 0 && random.nextBoolean() ? level : placeBeside(arm, degree);
            level = place;
            due("knot(" + degree + ", " + place + ")", model.knot(degree, place), row.knot(degree, place));
            degree += seldom() ? 0 : 1 + random.nextInt(80);
        }
        if (random.nextInt(4) > 0) {
            due("arm(" + arm + ")", model.arm(arm), row.arm(arm));
        }
        if (random.nextInt(4) > 0) {
            due("forget()", model.forget(), row.forget());
        }
    }

    private int placeBeside(int arm, int degree) {
        if (seldom() || degree > 359) {
            return about(0, 1000);
        }
        int least = arm == 0 ? 0 : (int) Math.ceil(value(arm - 1, degree)) + 50;
        int most = arm == 2 ? 1000 : (int) Math.floor(value(arm + 1, degree)) - 50;
        if (most <= least) {
            return Math.max(0, most);
        }
        int[] some = {least, most, least + random.nextInt(most - least + 1), most - 1, least + 1};
        int place = some[random.nextInt(some.length)];
        return random.nextInt(40) == 0 ? place + (random.nextBoolean() ? 1 : -1) : place;
    }

    private double value(int arm, int degree) {
        Model.Fraction f = Model.at(model.arms.get(arm), degree);
        return (double) f.above() / f.below();
    }

    private void cutCall() {
        switch (random.nextInt(22)) {
            case 0 -> {
                int s = about(0, 5);
                due("stop(" + s + ")", model.stop(s), row.stop(s));
            }
            case 1 -> {
                int s = about(0, 5);
                due("start(" + s + ")", model.start(s), row.start(s));
            }
            case 2 -> {
                int s = about(0, 5);
                int j = about(0, 3);
                due("job(" + s + ", " + j + ")", model.job(s, j), row.job(s, j));
            }
            case 3 -> aimCall();
            case 4 -> glassCall();
            case 5 -> {
                int s = about(0, 5);
                int m = about(0, 29);
                due("mould(" + s + ", " + m + ")", model.mould(s, m), row.mould(s, m));
            }
            case 6, 7 -> {
                int m = seldom() ? about(0, 29) : model.moulds[random.nextInt(6)];
                due("swab(" + m + ")", model.swab(m), row.swab(m));
            }
            case 8 -> {
                int m = seldom() ? about(0, 29) : model.moulds[random.nextInt(6)];
                due("repair(" + m + ")", model.repair(m), row.repair(m));
            }
            case 9 -> {
                int m = seldom() ? about(0, 29) : model.moulds[random.nextInt(6)];
                boolean is = random.nextInt(3) == 0;
                due("pull(" + m + ", " + is + ")", model.pull(m, is), row.pull(m, is));
            }
            case 10 -> ruleCall();
            case 11, 12 -> {
                int m = seldom() ? about(0, 29) : random.nextInt(8);
                int w = about(0, 5);
                due("book(" + m + ", " + w + ")", model.book(m, w), row.book(m, w));
            }
            case 13, 14, 15 -> {
                int n = random.nextInt(30) == 0 ? about(1, 100) : 1 + random.nextInt(9);
                due("cut(" + n + ")", model.cut(n), row.cut(n));
            }
            case 16 -> {
                if (random.nextInt(3) == 0) {
                    due("drain()", model.drain(), row.drain());
                }
            }
            case 17, 18, 19 -> {
                int k = about(0, 12);
                int w = about(0, 5);
                due("bottle(" + k + ", " + w + ")", model.bottle(k, w), row.bottle(k, w));
                due("bottle(" + k + ", 5)", model.bottle(k, 5), row.bottle(k, 5));
            }
            default -> manyCall();
        }
    }

    private void aimCall() {
        int j = about(0, 3);
        int a = random.nextBoolean() ? about(100, 900) : 480 + random.nextInt(41);
        int c = random.nextInt(4) == 0 ? about(0, 3) : model.colour;
        due("aim(" + j + ", " + a + ", " + c + ")", model.aim(j, a, c), row.aim(j, a, c));
    }

    private void glassCall() {
        int c = random.nextInt(3) == 0 ? about(0, 3) : model.colours[model.jobs[0]];
        int n = random.nextInt(3) == 0 ? about(0, 50) : random.nextInt(5);
        due("glass(" + c + ", " + n + ")", model.glass(c, n), row.glass(c, n));
    }

    private void ruleCall() {
        int w = about(0, 1);
        int v = w == 0 ? about(-200, 200) : random.nextBoolean() ? about(1, 1000) : 1 + random.nextInt(20);
        if (w == 0 && random.nextBoolean()) {
            v = random.nextInt(47) - 23;
        }
        due("rule(" + w + ", " + v + ")", model.rule(w, v), row.rule(w, v));
    }

    private void manyCall() {
        int w = about(0, 15);
        due("many(" + w + ")", model.many(w), row.many(w));
    }
}
