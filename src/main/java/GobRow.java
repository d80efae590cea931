/**
 * A row of bottle machines under one shear, as ../shared/DOC.md tells it. The words in capitals
 * in the comments are the document's own.
 */
public final class GobRow {
    public static final int NUMBER = -1;
    public static final int FULL = -2;
    public static final int TWICE = -3;
    public static final int NONE = -4;
    public static final int NEAR = -5;
    public static final int LAW = -100;

    private static final int DEGREES = 360;
    private static final int SECTIONS = 6;
    private static final int ACTS = 8;
    private static final int MAX_LAWS = 16;
    private static final int MAX_PACE = 60;
    private static final int MAX_MILLISECONDS = 60000;
    private static final int NO_LAW = -1;

    private static final int KIND_AHEAD = 0;
    private static final int KIND_APART = 1;
    private static final int KIND_LONG = 2;
    private static final int KIND_WITHIN = 3;

    private static final int ARMS = 3;
    private static final int MAX_KNOTS = 6;
    private static final int MAX_PLACE = 1000;
    private static final int CLEARANCE = 50;

    private static final int JOBS = 4;
    private static final int COLOURS = 4;
    private static final int MOULDS = 30;
    private static final int MAX_MIXED = 50;
    private static final int MAX_CUTS = 100;
    private static final int BELT_SIZE = 12;
    private static final int NOWHERE = -1;

    private static final int MIDDLE_WEIGHT = 500;
    private static final int LEAST_WEIGHT = 100;
    private static final int MOST_WEIGHT = 900;
    private static final int MAX_DRIFT = 200;
    private static final int MOST_LASTS = 1000;
    private static final int NO_RULE = -1000;
    private static final int DUST_BORNE = 8;
    private static final int WEIGHT_BORNE = 20;
    private static final int STEERS_EVERY = 4;

    private static final int GOOD = 0;
    private static final int BAD_MIXED = 1;
    private static final int BAD_COLOUR = 2;
    private static final int BAD_DUST = 3;
    private static final int BAD_WORN = 4;
    private static final int BAD_PULLED = 5;
    private static final int BAD_WEIGHT = 6;
    private static final int VERDICTS = 7;

    private final Drums drums = new Drums();
    private final Rail rail = new Rail();
    private final Order order = new Order();
    private final Moulds moulds = new Moulds();
    private final Belt belt = new Belt();
    private final int[] jobOfSection = new int[SECTIONS];
    private final int[] aimOfJob = new int[JOBS];
    private final int[] colourOfJob = new int[JOBS];
    private final int[] judged = new int[VERDICTS];
    private int glassColour = 0;
    private int mixed = 0;
    private int tube = MIDDLE_WEIGHT;
    private int drift = 0;
    private int lasts = 200;
    private int cuts = 0;

    public GobRow() {
        for (int job = 0; job < JOBS; job++) {
            aimOfJob[job] = MIDDLE_WEIGHT;
        }
    }

    // ---- drums

    public int set(int section, int act, int on, int off) {
        if (!isSetting(section, act, on, off)) {
            return NUMBER;
        }
        int broken = drums.brokenIf(section, act, on, off);
        if (broken != NO_LAW) {
            return LAW - broken;
        }
        drums.rows[section].change(act, on, off);
        return 1;
    }

    public int turn(int section, int by) {
        if (!isSection(section) || !isBetween(by, 1 - DEGREES, DEGREES - 1)) {
            return NUMBER;
        }
        // No LAW is looked at: each one tells of distances alone, and these stay as they are.
        drums.rows[section].shift(by);
        return 1;
    }

    public int copy(int section, int other) {
        if (!isSection(section) || !isSection(other)) {
            return NUMBER;
        }
        drums.rows[section].become(drums.rows[other]);
        return 1;
    }

    public int law(int kind, int a, int b, int n) {
        if (!isLaw(kind, a, b, n)) {
            return NUMBER;
        }
        if (drums.lawCount >= MAX_LAWS) {
            return FULL;
        }
        int number = drums.lawCount;
        drums.laws[number].become(kind, a, b, n);
        if (drums.anyBreaks(number, drums.turnsAMinute)) {
            return LAW - number;
        }
        drums.lawCount = number + 1;
        return number;
    }

    public int repeal() {
        if (drums.lawCount == 0) {
            return NONE;
        }
        drums.lawCount--;
        return drums.lawCount;
    }

    public int pace(int p) {
        if (!isBetween(p, 1, MAX_PACE)) {
            return NUMBER;
        }
        int broken = drums.brokenAt(p);
        if (broken != NO_LAW) {
            return LAW - broken;
        }
        int was = drums.turnsAMinute;
        drums.turnsAMinute = p;
        return was;
    }

    public int fastest() {
        return drums.greatestPace();
    }

    public int act(int section, int act, int what, int degree) {
        if (!isSection(section) || !isAct(act)) {
            return NUMBER;
        }
        Drum drum = drums.rows[section];
        switch (what) {
            case 0:
                return drum.on[act];
            case 1:
                return drum.off[act];
            case 2:
                return drum.length(act);
            case 3:
                return isDegree(degree) ? asNumber(drum.isDone(act, degree)) : NUMBER;
            default:
                return NUMBER;
        }
    }

    public int would(int section, int act, int on, int off) {
        if (!isSetting(section, act, on, off)) {
            return NUMBER;
        }
        int broken = drums.brokenIf(section, act, on, off);
        return broken == NO_LAW ? 0 : 1 + broken;
    }

    // ---- arms

    public int arm(int arm) {
        if (!isArm(arm)) {
            return NUMBER;
        }
        int count = rail.told.count;
        if (count == 0) {
            return NONE;
        }
        rail.swapWithTold(arm);
        if (!rail.isClear()) {
            rail.swapWithTold(arm);
            return NEAR;
        }
        rail.told.count = 0;
        return count;
    }

    public int knot(int degree, int place) {
        if (!isDegree(degree) || !isBetween(place, 0, MAX_PLACE) || degree <= rail.told.latest()) {
            return NUMBER;
        }
        if (rail.told.count >= MAX_KNOTS) {
            return FULL;
        }
        rail.told.add(degree, place);
        return rail.told.count;
    }

    public int forget() {
        int count = rail.told.count;
        rail.told.count = 0;
        return count;
    }

    public int place(int arm, int degree, int what) {
        if (!isArm(arm) || !isDegree(degree) || !isBetween(what, 0, 1)) {
            return NUMBER;
        }
        int above = rail.arms[arm].above(degree);
        int below = rail.arms[arm].below(degree);
        int shared = greatestDivisor(above, below);
        return what == 0 ? above / shared : below / shared;
    }

    public int nearest(int i, int j) {
        if (!isArm(i) || !isArm(j) || i >= j) {
            return NUMBER;
        }
        return rail.nearestDegree(rail.arms[i], rail.arms[j]);
    }

    // ---- sections, jobs, moulds

    public int stop(int section) {
        if (!isSection(section)) {
            return NUMBER;
        }
        int at = order.find(section);
        if (at == NOWHERE) {
            return TWICE;
        }
        order.leave(at);
        return order.count;
    }

    public int start(int section) {
        if (!isSection(section)) {
            return NUMBER;
        }
        if (order.find(section) != NOWHERE) {
            return TWICE;
        }
        order.join(section);
        return order.count;
    }

    public int job(int section, int job) {
        if (!isSection(section) || !isJob(job)) {
            return NUMBER;
        }
        int was = jobOfSection[section];
        jobOfSection[section] = job;
        return was;
    }

    public int aim(int job, int aim, int colour) {
        if (!isJob(job) || !isBetween(aim, LEAST_WEIGHT, MOST_WEIGHT) || !isColour(colour)) {
            return NUMBER;
        }
        aimOfJob[job] = aim;
        colourOfJob[job] = colour;
        return 1;
    }

    public int glass(int colour, int n) {
        if (!isColour(colour) || !isBetween(n, 0, MAX_MIXED)) {
            return NUMBER;
        }
        if (colour == glassColour) {
            return TWICE;
        }
        glassColour = colour;
        mixed = n;
        return 1;
    }

    public int mould(int section, int mould) {
        if (!isSection(section) || !isMould(mould)) {
            return NUMBER;
        }
        if (moulds.sectionOf(mould) != NOWHERE) {
            return TWICE;
        }
        int was = moulds.inSection[section];
        moulds.inSection[section] = mould;
        return was;
    }

    public int swab(int mould) {
        if (!isMould(mould)) {
            return NUMBER;
        }
        int was = moulds.dust[mould];
        moulds.dust[mould] = 0;
        return was;
    }

    public int repair(int mould) {
        if (!isMould(mould)) {
            return NUMBER;
        }
        int was = moulds.uses[mould];
        moulds.makeNew(mould);
        return was;
    }

    public int pull(int mould, boolean is) {
        if (!isMould(mould)) {
            return NUMBER;
        }
        boolean isNew = moulds.pulled[mould] != is;
        moulds.pulled[mould] = is;
        return asNumber(isNew);
    }

    public int rule(int what, int v) {
        if (what == 0 && isBetween(v, -MAX_DRIFT, MAX_DRIFT)) {
            int was = drift;
            drift = v;
            return was;
        }
        if (what == 1 && isBetween(v, 1, MOST_LASTS)) {
            int was = lasts;
            lasts = v;
            return was;
        }
        return NO_RULE;
    }

    public int book(int mould, int what) {
        if (!isMould(mould)) {
            return NUMBER;
        }
        switch (what) {
            case 0:
                return moulds.uses[mould];
            case 1:
                return moulds.dust[mould];
            case 2:
                return asNumber(moulds.pulled[mould]);
            case 3:
                return moulds.good[mould];
            case 4:
                return moulds.bad[mould];
            case 5:
                return moulds.sectionOf(mould);
            default:
                return NUMBER;
        }
    }

    // ---- cuts

    public int cut(int n) {
        if (!isBetween(n, 1, MAX_CUTS)) {
            return NUMBER;
        }
        if (order.count == 0) {
            return NONE;
        }
        int cameOff = 0;
        for (int k = 0; k < n; k++) {
            if (belt.count == BELT_SIZE) {
                takeOffEldest();
                cameOff++;
            }
            makeBottle();
        }
        return cameOff;
    }

    public int drain() {
        int count = belt.count;
        for (int k = 0; k < count; k++) {
            takeOffEldest();
        }
        return count;
    }

    public int bottle(int k, int what) {
        if (k < 0 || k >= belt.count) {
            return NUMBER;
        }
        Bottle bottle = belt.fromEldest(k);
        switch (what) {
            case 0:
                return bottle.number;
            case 1:
                return bottle.section;
            case 2:
                return bottle.mould;
            case 3:
                return bottle.job;
            case 4:
                return bottle.weight;
            case 5:
                return verdict(bottle);
            default:
                return NUMBER;
        }
    }

    public int many(int what) {
        if (isBetween(what, 2, 8)) {
            return judged[what - 2];
        }
        switch (what) {
            case 0:
                return cuts;
            case 1:
                return belt.count;
            case 9:
                return order.count;
            case 10:
                return tube;
            case 11:
                return order.next();
            case 12:
                return mixed;
            case 13:
                return drums.lawCount;
            case 14:
                return drums.turnsAMinute;
            case 15:
                return glassColour;
            default:
                return NUMBER;
        }
    }

    private void makeBottle() {
        int section = order.next();
        order.pass();
        int mould = moulds.inSection[section];
        int job = jobOfSection[section];
        moulds.uses[mould]++;
        moulds.dust[mould]++;
        Bottle bottle = belt.putLast();
        bottle.number = cuts;
        bottle.section = section;
        bottle.mould = mould;
        bottle.job = job;
        bottle.aim = aimOfJob[job];
        bottle.weight = tube + drift + bottle.aim - MIDDLE_WEIGHT;
        bottle.fault = faultOfCut(job, mould);
        cuts++;
        if (mixed > 0) {
            mixed--;
        }
    }

    // Kept with the bottle, since what it looks at may change while the bottle is on THE BELT.
    private int faultOfCut(int job, int mould) {
        if (mixed > 0) {
            return BAD_MIXED;
        }
        if (colourOfJob[job] != glassColour) {
            return BAD_COLOUR;
        }
        if (moulds.dust[mould] > DUST_BORNE) {
            return BAD_DUST;
        }
        return moulds.uses[mould] > lasts ? BAD_WORN : GOOD;
    }

    private int verdict(Bottle bottle) {
        if (bottle.fault != GOOD) {
            return bottle.fault;
        }
        if (moulds.pulled[bottle.mould]) {
            return BAD_PULLED;
        }
        return Math.abs(bottle.weight - bottle.aim) > WEIGHT_BORNE ? BAD_WEIGHT : GOOD;
    }

    private void takeOffEldest() {
        Bottle bottle = belt.takeEldest();
        int verdict = verdict(bottle);
        judged[verdict]++;
        moulds.enter(bottle.mould, verdict == GOOD);
        if (bottle.number % STEERS_EVERY == 0) {
            int steered = tube + (bottle.aim - bottle.weight) / 2;
            tube = Math.max(LEAST_WEIGHT, Math.min(MOST_WEIGHT, steered));
        }
    }

    private static boolean isSetting(int section, int act, int on, int off) {
        return isSection(section) && isAct(act) && isDegree(on) && isDegree(off) && on != off;
    }

    private static boolean isLaw(int kind, int a, int b, int n) {
        if (!isBetween(kind, KIND_AHEAD, KIND_WITHIN) || !isAct(a) || !isAct(b)) {
            return false;
        }
        if (a == b && kind != KIND_LONG) {
            return false;
        }
        return isBetween(n, 0, kind == KIND_AHEAD ? DEGREES - 1 : MAX_MILLISECONDS);
    }

    private static boolean isBetween(int value, int least, int most) {
        return value >= least && value <= most;
    }

    private static boolean isDegree(int value) {
        return isBetween(value, 0, DEGREES - 1);
    }

    private static boolean isSection(int value) {
        return isBetween(value, 0, SECTIONS - 1);
    }

    private static boolean isAct(int value) {
        return isBetween(value, 0, ACTS - 1);
    }

    private static boolean isArm(int value) {
        return isBetween(value, 0, ARMS - 1);
    }

    private static boolean isJob(int value) {
        return isBetween(value, 0, JOBS - 1);
    }

    private static boolean isColour(int value) {
        return isBetween(value, 0, COLOURS - 1);
    }

    private static boolean isMould(int value) {
        return isBetween(value, 0, MOULDS - 1);
    }

    private static int asNumber(boolean is) {
        return is ? 1 : 0;
    }

    /** How many DEGREES must be gone up in the ring, 0 to 359. */
    private static int wayUp(int from, int to) {
        return to < from ? to - from + DEGREES : to - from;
    }

    /** Never below 1, so that it may divide. */
    private static int greatestDivisor(int a, int b) {
        int large = a;
        int small = b;
        // Euclid's rests shrink to half in two steps: 64 steps are enough for any two ints.
        for (int step = 0; step < 64 && small != 0; step++) {
            int rest = large % small;
            large = small;
            small = rest;
        }
        return Math.max(1, large);
    }

    /** The ACTS of one SECTION. */
    private static final class Drum {
        final int[] on = new int[ACTS];
        final int[] off = new int[ACTS];

        Drum() {
            for (int k = 0; k < ACTS; k++) {
                on[k] = 40 * k;
                off[k] = 40 * k + 20;
            }
        }

        void change(int act, int newOn, int newOff) {
            on[act] = newOn;
            off[act] = newOff;
        }

        void shift(int by) {
            for (int k = 0; k < ACTS; k++) {
                on[k] = Math.floorMod(on[k] + by, DEGREES);
                off[k] = Math.floorMod(off[k] + by, DEGREES);
            }
        }

        void become(Drum other) {
            for (int k = 0; k < ACTS; k++) {
                on[k] = other.on[k];
                off[k] = other.off[k];
            }
        }

        int length(int act) {
            return wayUp(on[act], off[act]);
        }

        boolean isDone(int act, int degree) {
            return wayUp(on[act], degree) < length(act);
        }

        boolean isInside(int inner, int outer) {
            return wayUp(on[outer], on[inner]) + length(inner) <= length(outer);
        }
    }

    /** One LAW over the ACTS a and b of each DRUM. */
    private static final class Rule {
        private int kind = KIND_AHEAD;
        private int a = 0;
        private int b = 0;
        private int n = 0;

        void become(int newKind, int newA, int newB, int newN) {
            kind = newKind;
            a = newA;
            b = newB;
            n = newN;
        }

        boolean isBroken(Drum drum, int turnsAMinute) {
            switch (kind) {
                case KIND_AHEAD:
                    return wayUp(drum.off[a], drum.on[b]) < n;
                case KIND_APART:
                    // Where both are done, one of them came ON while the other one was done.
                    return drum.isDone(a, drum.on[b]) || drum.isDone(b, drum.on[a]);
                case KIND_LONG:
                    return drum.length(a) * 500 < 3 * turnsAMinute * n;
                default:
                    return !drum.isInside(a, b);
            }
        }

        /** The other kinds don't look at PACE, so LONG alone bounds it. */
        int greatestPace(Drum drum) {
            if (kind != KIND_LONG || n < 1) {
                return MAX_PACE;
            }
            return drum.length(a) * 500 / (3 * n);
        }
    }

    /** All DRUMS with their LAWS and PACE. */
    private static final class Drums {
        final Drum[] rows = new Drum[SECTIONS];
        final Rule[] laws = new Rule[MAX_LAWS];
        private final Drum trial = new Drum();
        int lawCount = 0;
        int turnsAMinute = 10;

        Drums() {
            for (int section = 0; section < SECTIONS; section++) {
                rows[section] = new Drum();
            }
            for (int number = 0; number < MAX_LAWS; number++) {
                laws[number] = new Rule();
            }
        }

        int brokenIf(int section, int act, int on, int off) {
            trial.become(rows[section]);
            trial.change(act, on, off);
            for (int number = 0; number < lawCount; number++) {
                if (laws[number].isBroken(trial, turnsAMinute)) {
                    return number;
                }
            }
            return NO_LAW;
        }

        int brokenAt(int newPace) {
            for (int number = 0; number < lawCount; number++) {
                if (anyBreaks(number, newPace)) {
                    return number;
                }
            }
            return NO_LAW;
        }

        boolean anyBreaks(int number, int newPace) {
            for (int section = 0; section < SECTIONS; section++) {
                if (laws[number].isBroken(rows[section], newPace)) {
                    return true;
                }
            }
            return false;
        }

        int greatestPace() {
            int greatest = MAX_PACE;
            for (int number = 0; number < lawCount; number++) {
                for (int section = 0; section < SECTIONS; section++) {
                    greatest = Math.min(greatest, laws[number].greatestPace(rows[section]));
                }
            }
            return greatest;
        }
    }

    /** The KNOTS of one ARM, or those told for one. */
    private static final class Knots {
        final int[] degrees = new int[MAX_KNOTS];
        private final int[] places = new int[MAX_KNOTS];
        int count = 0;

        void add(int degree, int newPlace) {
            degrees[count] = degree;
            places[count] = newPlace;
            count++;
        }

        /** The DEGREE told latest; below all of them if none is told. */
        int latest() {
            return count == 0 ? -1 : degrees[count - 1];
        }

        /** Above the line of the PLACE at a DEGREE, not cleared. */
        int above(int degree) {
            int from = lastAhead(degree);
            int rise = places[nextInRing(from)] - places[from];
            return places[from] * below(degree) + rise * wayUp(degrees[from], degree);
        }

        /** Below the line of the PLACE at a DEGREE, not cleared: from KNOT to KNOT. */
        int below(int degree) {
            int from = lastAhead(degree);
            int way = wayUp(degrees[from], degrees[nextInRing(from)]);
            // A single KNOT is its own next one, a whole ring away.
            return way == 0 ? DEGREES : way;
        }

        private int lastAhead(int degree) {
            int found = Math.max(0, count - 1);
            for (int k = 0; k < count; k++) {
                if (degrees[k] <= degree) {
                    found = k;
                }
            }
            return found;
        }

        private int nextInRing(int k) {
            return k + 1 < count ? k + 1 : 0;
        }
    }

    /**
     * The ARMS on their rail. Between two neighbouring KNOTS of a pair of ARMS the distance of the
     * two is a straight line, so it is least at one of these KNOTS: no other DEGREES are looked at.
     */
    private static final class Rail {
        final Knots[] arms = new Knots[ARMS];
        Knots told = new Knots();

        Rail() {
            for (int k = 0; k < ARMS; k++) {
                arms[k] = new Knots();
                arms[k].add(0, 300 * k);
            }
        }

        void swapWithTold(int k) {
            Knots was = arms[k];
            arms[k] = told;
            told = was;
        }

        boolean isClear() {
            for (int i = 0; i < ARMS; i++) {
                for (int j = i + 1; j < ARMS; j++) {
                    if (!isPairClear(arms[i], arms[j])) {
                        return false;
                    }
                }
            }
            return true;
        }

        int nearestDegree(Knots low, Knots high) {
            // 0 stands for a level line through 0, whose KNOT ahead is at a higher DEGREE.
            int best = 0;
            for (int k = 0; k < low.count; k++) {
                best = nearerDegree(low, high, best, low.degrees[k]);
            }
            for (int k = 0; k < high.count; k++) {
                best = nearerDegree(low, high, best, high.degrees[k]);
            }
            return best;
        }

        private static boolean isPairClear(Knots low, Knots high) {
            for (int k = 0; k < low.count; k++) {
                if (!isClearAt(low, high, low.degrees[k])) {
                    return false;
                }
            }
            for (int k = 0; k < high.count; k++) {
                if (!isClearAt(low, high, high.degrees[k])) {
                    return false;
                }
            }
            return true;
        }

        private static boolean isClearAt(Knots low, Knots high, int degree) {
            int lowBelow = low.below(degree);
            long lowSide = (long) (low.above(degree) + CLEARANCE * lowBelow) * high.below(degree);
            return lowSide <= (long) high.above(degree) * lowBelow;
        }

        private static int nearerDegree(Knots low, Knots high, int best, int degree) {
            long bestSide = distanceAbove(low, high, best) * distanceBelow(low, high, degree);
            long side = distanceAbove(low, high, degree) * distanceBelow(low, high, best);
            if (side == bestSide) {
                return Math.min(best, degree);
            }
            return side < bestSide ? degree : best;
        }

        private static long distanceAbove(Knots low, Knots high, int degree) {
            long highSide = (long) high.above(degree) * low.below(degree);
            long lowSide = (long) low.above(degree) * high.below(degree);
            return highSide - lowSide;
        }

        private static long distanceBelow(Knots low, Knots high, int degree) {
            return (long) low.below(degree) * high.below(degree);
        }
    }

    /** The SECTIONS that RUN, in the ORDER of their CUTS. */
    private static final class Order {
        private final int[] sections = new int[SECTIONS];
        private int turnAt = 0;
        int count = SECTIONS;

        Order() {
            for (int k = 0; k < SECTIONS; k++) {
                sections[k] = k;
            }
        }

        int find(int section) {
            for (int k = 0; k < count; k++) {
                if (sections[k] == section) {
                    return k;
                }
            }
            return NOWHERE;
        }

        void leave(int at) {
            for (int k = at; k + 1 < count; k++) {
                sections[k] = sections[k + 1];
            }
            count--;
            if (at < turnAt) {
                turnAt--;
            }
            if (turnAt >= count) {
                turnAt = 0;
            }
        }

        void join(int section) {
            sections[count] = section;
            count++;
        }

        int next() {
            return count == 0 ? NOWHERE : sections[turnAt];
        }

        void pass() {
            turnAt = turnAt + 1 < count ? turnAt + 1 : 0;
        }
    }

    /** The books of all MOULDS, and which one each SECTION has. */
    private static final class Moulds {
        final int[] uses = new int[MOULDS];
        final int[] dust = new int[MOULDS];
        final boolean[] pulled = new boolean[MOULDS];
        final int[] good = new int[MOULDS];
        final int[] bad = new int[MOULDS];
        final int[] inSection = new int[SECTIONS];

        Moulds() {
            for (int section = 0; section < SECTIONS; section++) {
                inSection[section] = section;
            }
        }

        int sectionOf(int number) {
            for (int section = 0; section < SECTIONS; section++) {
                if (inSection[section] == number) {
                    return section;
                }
            }
            return NOWHERE;
        }

        void makeNew(int number) {
            uses[number] = 0;
            dust[number] = 0;
            pulled[number] = false;
        }

        void enter(int number, boolean isGood) {
            if (isGood) {
                good[number]++;
            } else {
                bad[number]++;
            }
        }
    }

    /** A bottle as it was when it was CUT; fault is for what it was BAD then. */
    private static final class Bottle {
        int number = 0;
        int section = 0;
        int mould = 0;
        int job = 0;
        int aim = 0;
        int weight = 0;
        int fault = GOOD;
    }

    /** THE BELT: a ring of bottles that are made once and filled again and again. */
    private static final class Belt {
        private final Bottle[] ring = new Bottle[BELT_SIZE];
        private int eldest = 0;
        int count = 0;

        Belt() {
            for (int k = 0; k < BELT_SIZE; k++) {
                ring[k] = new Bottle();
            }
        }

        Bottle fromEldest(int k) {
            return ring[(eldest + k) % BELT_SIZE];
        }

        Bottle putLast() {
            Bottle last = fromEldest(count);
            count++;
            return last;
        }

        Bottle takeEldest() {
            Bottle taken = ring[eldest];
            eldest = (eldest + 1) % BELT_SIZE;
            count--;
            return taken;
        }
    }
}
