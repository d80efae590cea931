import java.util.ArrayList;
import java.util.Arrays;
import java.util.List;

/**
 * All that calls show of an object after a run of calls. The document allows an object 512 calls, and
 * some of what it holds shows only in calls that change it: so each group of questions is asked of an
 * object of its own, after the same run.
 */
final class Shown {
    interface Call {
        int on(GobRow row);
    }

    private interface Group {
        void ask(Shown shown);
    }

    private static final int MOST_CALLS = 512;

    private final List<Call> run;
    private final List<int[]> groups = new ArrayList<>();
    private GobRow row;
    private int[] answers;
    private int count;

    private Shown(List<Call> run) {
        this.run = run;
        for (int a = 0; a < 3; a++) {
            int arm = a;
            ask(shown -> shown.askPlaces(arm, 0));
            ask(shown -> shown.askPlaces(arm, 1));
            ask(shown -> shown.askTold(arm));
        }
        ask(Shown::askCountsAndBooks);
        ask(Shown::askLaws);
        ask(Shown::askBelt);
        ask(Shown::askOrder);
        ask(Shown::askAims);
    }

    static Shown after(List<Call> run) {
        return new Shown(run);
    }

    boolean isAs(Shown other) {
        for (int k = 0; k < groups.size(); k++) {
            if (!Arrays.equals(groups.get(k), other.groups.get(k))) {
                return false;
            }
        }
        return true;
    }

    private void ask(Group group) {
        row = new GobRow();
        for (Call call : run) {
            call.on(row);
        }
        answers = new int[MOST_CALLS - run.size()];
        count = 0;
        group.ask(this);
        groups.add(Arrays.copyOf(answers, count));
    }

    private void keep(int answer) {
        answers[count] = answer;
        count++;
    }

    private void askCountsAndBooks() {
        for (int what = 0; what < 16; what++) {
            keep(row.many(what));
        }
        for (int section = 0; section < 6; section++) {
            for (int act = 0; act < 8; act++) {
                keep(row.act(section, act, 0, 0));
                keep(row.act(section, act, 1, 0));
            }
        }
        for (int mould = 0; mould < 30; mould++) {
            for (int what = 0; what < 6; what++) {
                keep(row.book(mould, what));
            }
        }
        keep(row.fastest());
        keep(row.nearest(0, 1));
        keep(row.nearest(0, 2));
        keep(row.nearest(1, 2));
    }

    /** Each LAW shows by what it forbids, and by whether that is still so once it is repealed. */
    private void askLaws() {
        for (int k = 0; k <= 16; k++) {
            for (int act = 0; act < 8; act++) {
                keep(row.would(5, act, 40 * act + 19, 40 * act + 20));
                keep(row.would(5, act, 40 * act + 5, (40 * act + 200) % 360));
            }
            keep(row.fastest());
            keep(row.repeal());
        }
    }

    private void askPlaces(int arm, int what) {
        for (int degree = 0; degree < 360; degree++) {
            keep(row.place(arm, degree, what));
        }
    }

    private void askTold(int arm) {
        keep(row.arm(arm));
        for (int degree = 0; degree < 360; degree += 3) {
            keep(row.place(arm, degree, 0));
            keep(row.place(arm, degree, 1));
        }
        keep(row.forget());
    }

    private void askBelt() {
        for (int k = 0; k < 12; k++) {
            for (int what = 0; what < 6; what++) {
                keep(row.bottle(k, what));
            }
        }
        keep(row.rule(0, 0));
        keep(row.rule(1, 200));
        keep(row.drain());
        for (int what = 0; what < 16; what++) {
            keep(row.many(what));
        }
    }

    private void askOrder() {
        keep(row.drain());
        keep(row.cut(12));
        for (int k = 0; k < 12; k++) {
            for (int what = 0; what < 6; what++) {
                keep(row.bottle(k, what));
            }
        }
        for (int section = 0; section < 6; section++) {
            keep(row.start(section));
        }
        keep(row.drain());
        keep(row.cut(12));
        for (int k = 0; k < 12; k++) {
            keep(row.bottle(k, 1));
        }
    }

    /** The AIM and the COLOUR of each JOB show in what is made for it. */
    private void askAims() {
        for (int section = 0; section < 6; section++) {
            keep(row.start(section));
            keep(row.job(section, section % 4));
            keep(row.mould(section, 20 + section));
        }
        for (int colour = 0; colour < 4; colour++) {
            keep(row.glass(colour, 0));
            keep(row.drain());
            keep(row.cut(12));
            for (int k = 0; k < 12; k++) {
                keep(row.bottle(k, 4));
                keep(row.bottle(k, 5));
            }
        }
    }
}
