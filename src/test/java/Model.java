import java.util.ArrayList;
import java.util.List;

/**
 * The document once more, said in the slowest and plainest way (every DEGREE is gone through, lists
 * grow and shrink), so that GobRow can be held against it. It shares no code with GobRow.
 */
final class Model {
    static final class Act {
        final int on;
        final int off;
        final boolean[] done = new boolean[360];
        final int degrees;

        Act(int on, int off) {
            this.on = on;
            this.off = off;
            int count = 0;
            for (int d = on; d != off; d = (d + 1) % 360) {
                done[d] = true;
                count++;
            }
            degrees = count;
        }
    }

    record Law(int kind, int a, int b, int n) { }

    record Knot(int degree, int place) { }

    record Fraction(long above, long below) { }

    static final class Bottle {
        int number;
        int section;
        int mould;
        int job;
        int weight;
        int aim;
        boolean mixed;
        boolean otherColour;
        boolean dusty;
        boolean worn;
    }

    final Act[][] drums = new Act[6][8];
    final List<Law> laws = new ArrayList<>();
    int pace = 10;
    final List<List<Knot>> arms = new ArrayList<>();
    List<Knot> told = new ArrayList<>();
    final List<Integer> order = new ArrayList<>();
    int whose = 0;
    final int[] jobs = new int[6];
    final int[] moulds = {0, 1, 2, 3, 4, 5};
    final int[] aims = {500, 500, 500, 500};
    final int[] colours = new int[4];
    final int[] uses = new int[30];
    final int[] dust = new int[30];
    final boolean[] pulled = new boolean[30];
    final int[][] verdicts = new int[30][7];
    int tube = 500;
    int drift = 0;
    int lasts = 200;
    int colour = 0;
    int mixed = 0;
    int cuts = 0;
    final List<Bottle> belt = new ArrayList<>();

    Model() {
        for (int s = 0; s < 6; s++) {
            order.add(s);
            for (int k = 0; k < 8; k++) {
                drums[s][k] = new Act(40 * k, 40 * k + 20);
            }
        }
        for (int k = 0; k < 3; k++) {
            arms.add(List.of(new Knot(0, 300 * k)));
        }
    }

    static boolean out(int v, int least, int most) {
        return v < least || v > most;
    }

    static int up(int from, int to) {
        int way = 0;
        while ((from + way) % 360 != to) {
            way++;
        }
        return way;
    }

    static boolean breaks(Act[] drum, Law law, int pace) {
        boolean[] a = drum[law.a].done;
        boolean[] b = drum[law.b].done;
        switch (law.kind) {
            case 0:
                return up(drum[law.a].off, drum[law.b].on) < law.n;
            case 1:
                for (int d = 0; d < 360; d++) {
                    if (a[d] && b[d]) {
                        return true;
                    }
                }
                return false;
            case 2:
                return drum[law.a].degrees * 500L < 3L * pace * law.n;
            default:
                for (int d = 0; d < 360; d++) {
                    if (a[d] && !b[d]) {
                        return true;
                    }
                }
                return false;
        }
    }

    boolean someBreaks(Law law, int pace) {
        for (Act[] drum : drums) {
            if (breaks(drum, law, pace)) {
                return true;
            }
        }
        return false;
    }

    int would(int section, int act, int on, int off) {
        if (out(section, 0, 5) || out(act, 0, 7) || out(on, 0, 359) || out(off, 0, 359) || on == off) {
            return -1;
        }
        Act[] drum = drums[section].clone();
        drum[act] = new Act(on, off);
        for (int k = 0; k < laws.size(); k++) {
            if (breaks(drum, laws.get(k), pace)) {
                return 1 + k;
            }
        }
        return 0;
    }

    int set(int section, int act, int on, int off) {
        int would = would(section, act, on, off);
        if (would != 0) {
            return would == -1 ? -1 : -100 - (would - 1);
        }
        drums[section][act] = new Act(on, off);
        return 1;
    }

    int turn(int section, int by) {
        if (out(section, 0, 5) || out(by, -359, 359)) {
            return -1;
        }
        for (int k = 0; k < 8; k++) {
            Act act = drums[section][k];
            drums[section][k] = new Act((act.on + by + 720) % 360, (act.off + by + 720) % 360);
        }
        return 1;
    }

    int copy(int section, int other) {
        if (out(section, 0, 5) || out(other, 0, 5)) {
            return -1;
        }
        drums[section] = drums[other].clone();
        return 1;
    }

    int law(int kind, int a, int b, int n) {
        if (out(kind, 0, 3) || out(a, 0, 7) || out(b, 0, 7) || (a == b && kind != 2)) {
            return -1;
        }
        if (out(n, 0, kind == 0 ? 359 : 60000)) {
            return -1;
        }
        if (laws.size() == 16) {
            return -2;
        }
        Law law = new Law(kind, a, b, n);
        if (someBreaks(law, pace)) {
            return -100 - laws.size();
        }
        laws.add(law);
        return laws.size() - 1;
    }

    int repeal() {
        if (laws.isEmpty()) {
            return -4;
        }
        laws.remove(laws.size() - 1);
        return laws.size();
    }

    int pace(int p) {
        if (out(p, 1, 60)) {
            return -1;
        }
        for (int k = 0; k < laws.size(); k++) {
            if (someBreaks(laws.get(k), p)) {
                return -100 - k;
            }
        }
        int was = pace;
        pace = p;
        return was;
    }

    int fastest() {
        for (int p = 60; p > 1; p--) {
            boolean broken = false;
            for (Law law : laws) {
                broken |= someBreaks(law, p);
            }
            if (!broken) {
                return p;
            }
        }
        return 1;
    }

    int act(int section, int act, int what, int degree) {
        if (out(section, 0, 5) || out(act, 0, 7) || out(what, 0, 3) || (what == 3 && out(degree, 0, 359))) {
            return -1;
        }
        Act it = drums[section][act];
        return switch (what) {
            case 0 -> it.on;
            case 1 -> it.off;
            case 2 -> it.degrees;
            default -> it.done[degree] ? 1 : 0;
        };
    }

    static Fraction at(List<Knot> knots, int degree) {
        Knot from = knots.get(0);
        Knot to = knots.get(0);
        for (Knot knot : knots) {
            from = back(knot, degree) < back(from, degree) ? knot : from;
            to = on(knot, degree) < on(to, degree) ? knot : to;
        }
        int back = back(from, degree);
        int on = on(to, degree);
        return new Fraction((long) from.place * on + (long) to.place * back, back + on);
    }

    /** How far back in the ring a KNOT is: 0 to 359. */
    static int back(Knot knot, int degree) {
        return (degree - knot.degree + 360) % 360;
    }

    /** How far on in the ring it is: 1 to 360. */
    static int on(Knot knot, int degree) {
        return 360 - back(knot, degree);
    }

    static Fraction distance(List<Knot> low, List<Knot> high, int degree) {
        Fraction p = at(low, degree);
        Fraction q = at(high, degree);
        return new Fraction(q.above * p.below - p.above * q.below, p.below * q.below);
    }

    int arm(int arm) {
        if (out(arm, 0, 2)) {
            return -1;
        }
        if (told.isEmpty()) {
            return -4;
        }
        List<List<Knot>> all = new ArrayList<>(arms);
        all.set(arm, told);
        for (int d = 0; d < 360; d++) {
            for (int i = 0; i < 3; i++) {
                for (int j = i + 1; j < 3; j++) {
                    Fraction between = distance(all.get(i), all.get(j), d);
                    if (between.above < 50 * between.below) {
                        return -5;
                    }
                }
            }
        }
        arms.set(arm, told);
        told = new ArrayList<>();
        return arms.get(arm).size();
    }

    int knot(int degree, int place) {
        if (out(degree, 0, 359) || out(place, 0, 1000)) {
            return -1;
        }
        if (!told.isEmpty() && degree <= told.get(told.size() - 1).degree) {
            return -1;
        }
        if (told.size() == 6) {
            return -2;
        }
        told.add(new Knot(degree, place));
        return told.size();
    }

    int forget() {
        int was = told.size();
        told.clear();
        return was;
    }

    int place(int arm, int degree, int what) {
        if (out(arm, 0, 2) || out(degree, 0, 359) || out(what, 0, 1)) {
            return -1;
        }
        Fraction f = at(arms.get(arm), degree);
        long above = f.above;
        long below = f.below;
        for (long k = below; k > 1; k--) {
            if (above % k == 0 && below % k == 0) {
                above /= k;
                below /= k;
            }
        }
        return (int) (what == 0 ? above : below);
    }

    int nearest(int i, int j) {
        if (out(i, 0, 2) || out(j, 0, 2) || i >= j) {
            return -1;
        }
        int best = 0;
        for (int d = 1; d < 360; d++) {
            Fraction f = distance(arms.get(i), arms.get(j), d);
            Fraction g = distance(arms.get(i), arms.get(j), best);
            if (f.above * g.below < g.above * f.below) {
                best = d;
            }
        }
        return best;
    }

    int stop(int section) {
        if (out(section, 0, 5)) {
            return -1;
        }
        int at = order.indexOf(section);
        if (at < 0) {
            return -3;
        }
        if (whose == section) {
            whose = order.get((at + 1) % order.size());
        }
        order.remove(at);
        if (order.isEmpty()) {
            whose = -1;
        }
        return order.size();
    }

    int start(int section) {
        if (out(section, 0, 5)) {
            return -1;
        }
        if (order.contains(section)) {
            return -3;
        }
        order.add(section);
        if (whose == -1) {
            whose = section;
        }
        return order.size();
    }

    int job(int section, int job) {
        if (out(section, 0, 5) || out(job, 0, 3)) {
            return -1;
        }
        int was = jobs[section];
        jobs[section] = job;
        return was;
    }

    int aim(int job, int aim, int colour) {
        if (out(job, 0, 3) || out(aim, 100, 900) || out(colour, 0, 3)) {
            return -1;
        }
        aims[job] = aim;
        colours[job] = colour;
        return 1;
    }

    int glass(int newColour, int n) {
        if (out(newColour, 0, 3) || out(n, 0, 50)) {
            return -1;
        }
        if (newColour == colour) {
            return -3;
        }
        colour = newColour;
        mixed = n;
        return 1;
    }

    int sectionOf(int mould) {
        for (int s = 0; s < 6; s++) {
            if (moulds[s] == mould) {
                return s;
            }
        }
        return -1;
    }

    int mould(int section, int mould) {
        if (out(section, 0, 5) || out(mould, 0, 29)) {
            return -1;
        }
        if (sectionOf(mould) >= 0) {
            return -3;
        }
        int was = moulds[section];
        moulds[section] = mould;
        return was;
    }

    int swab(int mould) {
        if (out(mould, 0, 29)) {
            return -1;
        }
        int was = dust[mould];
        dust[mould] = 0;
        return was;
    }

    int repair(int mould) {
        if (out(mould, 0, 29)) {
            return -1;
        }
        int was = uses[mould];
        uses[mould] = 0;
        dust[mould] = 0;
        pulled[mould] = false;
        return was;
    }

    int pull(int mould, boolean is) {
        if (out(mould, 0, 29)) {
            return -1;
        }
        boolean was = pulled[mould];
        pulled[mould] = is;
        return was == is ? 0 : 1;
    }

    int rule(int what, int v) {
        int was = -1000;
        if (what == 0 && !out(v, -200, 200)) {
            was = drift;
            drift = v;
        } else if (what == 1 && !out(v, 1, 1000)) {
            was = lasts;
            lasts = v;
        }
        return was;
    }

    int book(int mould, int what) {
        if (out(mould, 0, 29) || out(what, 0, 5)) {
            return -1;
        }
        int bad = 0;
        for (int k = 1; k <= 6; k++) {
            bad += verdicts[mould][k];
        }
        int[] page = {uses[mould], dust[mould], pulled[mould] ? 1 : 0, verdicts[mould][0], bad, sectionOf(mould)};
        return page[what];
    }

    int judge(Bottle b) {
        if (b.mixed) {
            return 1;
        }
        if (b.otherColour) {
            return 2;
        }
        if (b.dusty) {
            return 3;
        }
        if (b.worn) {
            return 4;
        }
        if (pulled[b.mould]) {
            return 5;
        }
        return b.weight > b.aim + 20 || b.weight < b.aim - 20 ? 6 : 0;
    }

    void comeOff() {
        Bottle b = belt.remove(0);
        verdicts[b.mould][judge(b)]++;
        if (b.number % 4 == 0) {
            tube += (b.aim - b.weight) / 2;
            tube = tube < 100 ? 100 : tube > 900 ? 900 : tube;
        }
    }

    void oneCut() {
        Bottle b = new Bottle();
        b.number = cuts++;
        b.section = whose;
        b.mould = moulds[whose];
        b.job = jobs[whose];
        b.aim = aims[b.job];
        b.weight = tube + drift + (b.aim - 500);
        uses[b.mould]++;
        dust[b.mould]++;
        b.mixed = mixed > 0;
        mixed -= mixed > 0 ? 1 : 0;
        b.otherColour = colour != colours[b.job];
        b.dusty = dust[b.mould] > 8;
        b.worn = uses[b.mould] > lasts;
        belt.add(b);
        whose = order.get((order.indexOf(whose) + 1) % order.size());
    }

    int cut(int n) {
        if (out(n, 1, 100)) {
            return -1;
        }
        if (order.isEmpty()) {
            return -4;
        }
        int off = 0;
        for (int k = 0; k < n; k++) {
            if (belt.size() == 12) {
                comeOff();
                off++;
            }
            oneCut();
        }
        return off;
    }

    int drain() {
        int count = 0;
        while (!belt.isEmpty()) {
            comeOff();
            count++;
        }
        return count;
    }

    int bottle(int k, int what) {
        if (out(k, 0, belt.size() - 1) || out(what, 0, 5)) {
            return -1;
        }
        Bottle b = belt.get(k);
        int[] page = {b.number, b.section, b.mould, b.job, b.weight, judge(b)};
        return page[what];
    }

    int many(int what) {
        if (out(what, 0, 15)) {
            return -1;
        }
        int[] sums = new int[7];
        for (int[] of : verdicts) {
            for (int k = 0; k < 7; k++) {
                sums[k] += of[k];
            }
        }
        int[] page = {cuts, belt.size(), sums[0], sums[1], sums[2], sums[3], sums[4], sums[5], sums[6],
            order.size(), tube, whose, mixed, laws.size(), pace, colour};
        return page[what];
    }
}
