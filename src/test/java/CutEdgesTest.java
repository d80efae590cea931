/** The boundaries that the document names for SECTIONS, JOBS, MOULDS and CUTS: promises 1 and 16 to 30 and their Terms. */
public final class CutEdgesTest {
    public static void main(String[] args) {
        Edges.run(CutEdgesTest.class, 16, 30);
    }

    private static void due(int want, int got) {
        Edges.due(want, got);
    }

    /** A new object with SECTION 0 alone: each bottle is made in MOULD 0. */
    private static GobRow withOneSection() {
        GobRow x = new GobRow();
        for (int section = 1; section < 6; section++) {
            due(6 - section, x.stop(section));
        }
        return x;
    }

    private static void stopAll(GobRow x) {
        for (int section = 0; section < 6; section++) {
            x.stop(section);
        }
        due(0, x.many(9));
    }

    private static void drift(GobRow x, int v) {
        Edges.holds(x.rule(0, v) != -1000);
    }

    /** Twelve bottles, from a number that is a multiple of 4 on: of each DRIFT the first of four STEERS. */
    private static void steer(GobRow x, int... drifts) {
        due(0, x.many(1));
        due(0, x.many(0) % 4);
        for (int v : drifts) {
            drift(x, v);
            due(0, x.cut(4));
        }
        due(4 * drifts.length, x.drain());
    }

    /** How the next bottle would be judged now; THE BELT is left without one. */
    private static int judgedNow(GobRow x) {
        due(0, x.many(1));
        due(0, x.cut(1));
        int verdict = x.bottle(0, 5);
        int before = x.many(2 + verdict);
        due(1, x.drain());
        due(before + 1, x.many(2 + verdict));
        return verdict;
    }

    private static void noneIsLost(GobRow x) {
        int sum = x.many(1);
        for (int what = 2; what <= 8; what++) {
            sum += x.many(what);
        }
        due(x.many(0), sum);
    }

    // ---- Terms

    @Edge(promise = 0, words = "SECTIONS are 0 to 5")
    static void sections() {
        Edges.range(0, 5, (x, v) -> x.stop(v));
        Edges.range(0, 5, (x, v) -> x.start(v));
        Edges.range(0, 5, (x, v) -> x.job(v, 0));
        Edges.range(0, 5, (x, v) -> x.mould(v, 29));
    }

    @Edge(promise = 0, words = "An object is used for at most 512 calls after it has been made")
    static void allCallsOfAnObject() {
        GobRow x = withOneSection();
        int left = 512 - 5;
        for (; left > 12; left--) {
            due(left == 507 ? 88 : 100, x.cut(100));
        }
        // 495 times 100
        due(49500, x.many(0));
        due(49500, x.book(0, 0));
        due(49500, x.book(0, 1));
        due(49499, x.bottle(11, 0));
        due(8, x.many(2));
        due(49480, x.many(5));
        due(49480, x.book(0, 4));
        due(12, x.drain());
        due(49492, x.many(5));
        due(49500, x.swab(0));
        due(49500, x.repair(0));
        due(0, x.book(0, 0));
    }

    @Edge(promise = 0, words = "CUTS come one behind the other, numbered from 0")
    static void cutsAreNumberedFromZero() {
        GobRow x = new GobRow();
        due(0, x.many(0));
        due(0, x.cut(1));
        due(1, x.many(0));
        due(0, x.bottle(0, 0));
        due(0, x.cut(11));
        for (int k = 0; k < 12; k++) {
            due(k, x.bottle(k, 0));
        }
        due(100, x.cut(100));
        for (int k = 0; k < 12; k++) {
            due(100 + k, x.bottle(k, 0));
        }
        due(12, x.drain());
        due(0, x.cut(1));
        due(112, x.bottle(0, 0));
        due(113, x.many(0));
    }

    @Edge(promise = 0, words = "the ORDER of those SECTIONS that RUN (0 to 5 at first: all RUN, in order): CUTS go to them in turn")
    static void turnGoesFromTheLastToTheFirst() {
        GobRow x = new GobRow();
        due(6, x.many(9));
        for (int k = 0; k < 18; k++) {
            due(k % 6, x.many(11));
            due(k < 12 ? 0 : 1, x.cut(1));
        }
        for (int k = 0; k < 12; k++) {
            due(k % 6, x.bottle(k, 1));
        }
        due(0, x.many(11));
    }

    @Edge(promise = 0, words = "Each SECTION has a JOB (0 to 3; 0 at first) and a MOULD (0 to 29; its own number at first)")
    static void jobsAndMouldsAtFirst() {
        GobRow x = new GobRow();
        due(0, x.cut(6));
        for (int k = 0; k < 6; k++) {
            due(0, x.bottle(k, 3));
            due(k, x.bottle(k, 2));
            due(k, x.book(k, 5));
        }
        due(-1, x.book(6, 5));
        due(-1, x.book(29, 5));
        Edges.range(0, 3, (y, v) -> y.job(5, v));
        Edges.range(0, 29, (y, v) -> y.mould(5, v));
        Edges.range(0, 29, (y, v) -> y.swab(v));
        Edges.range(0, 29, (y, v) -> y.repair(v));
        Edges.range(0, 29, (y, v) -> y.pull(v, true));
        Edges.range(0, 29, (y, v) -> y.pull(v, false));
        Edges.range(0, 29, (y, v) -> y.book(v, 0));
    }

    @Edge(promise = 0, words = "no MOULD in two")
    static void noMouldInTwo() {
        GobRow x = new GobRow();
        for (int section = 0; section < 6; section++) {
            for (int mould = 0; mould < 6; mould++) {
                due(GobRow.TWICE, x.mould(section, mould));
            }
        }
        due(5, x.mould(5, 29));
        due(GobRow.TWICE, x.mould(5, 29));
        due(GobRow.TWICE, x.mould(0, 29));
        due(0, x.mould(0, 5));
        due(GobRow.TWICE, x.mould(1, 5));
        due(29, x.mould(5, 0));
        due(0, x.book(5, 5));
        due(5, x.book(0, 5));
        due(-1, x.book(29, 5));
        // a MOULD of a SECTION that doesn't RUN is in that SECTION still
        due(5, x.stop(2));
        due(GobRow.TWICE, x.mould(1, 2));
        due(2, x.book(2, 5));
    }

    @Edge(promise = 0, words = "Each JOB has an AIM (100 to 900; 500 at first), and a COLOUR (0 to 3; 0 at first).")
    static void aims() {
        Edges.range(100, 900, (x, v) -> x.aim(0, v, 0));
        Edges.range(0, 3, (x, v) -> x.aim(0, 500, v));
        Edges.range(0, 3, (x, v) -> x.aim(v, 500, 0));
        Edges.range(0, 3, (x, v) -> v == 0 ? x.many(15) : x.glass(v, 0));
        GobRow x = new GobRow();
        for (int job = 0; job < 4; job++) {
            due(0, x.job(job, job));
        }
        due(0, x.cut(4));
        for (int job = 0; job < 4; job++) {
            due(job, x.bottle(job, 3));
            due(500, x.bottle(job, 4));
            due(0, x.bottle(job, 5));
        }
    }

    @Edge(promise = 0, words = "the WEIGHT of a gob is TUBE and DRIFT (-200 to 200; 0 at first), and the AIM of its JOB less 500")
    static void lightestAndHeaviest() {
        GobRow x = new GobRow();
        due(500, x.many(10));
        steer(x, 200, 200, 200);
        steer(x, -200, -200, -200);
        due(900, x.many(10));
        drift(x, 200);
        due(1, x.aim(0, 900, 0));
        due(0, x.cut(1));
        due(1500, x.bottle(0, 4));
        due(6, x.bottle(0, 5));
        due(1, x.drain());
        due(600, x.many(10));
        GobRow y = new GobRow();
        steer(y, -200, -200, -200);
        steer(y, 200, 200, 200);
        due(100, y.many(10));
        drift(y, -200);
        due(1, y.aim(0, 100, 0));
        due(0, y.cut(1));
        due(-500, y.bottle(0, 4));
        due(6, y.bottle(0, 5));
        due(1, y.drain());
        due(400, y.many(10));
    }

    @Edge(promise = 0, words = "A MOULD has USES, and DUST: USES since it was swabbed (0 at first, both).")
    static void usesAndDustAtFirst() {
        GobRow x = new GobRow();
        for (int mould = 0; mould < 30; mould++) {
            due(0, x.book(mould, 0));
            due(0, x.book(mould, 1));
        }
        due(0, x.cut(1));
        due(1, x.book(0, 0));
        due(1, x.book(0, 1));
        due(0, x.book(1, 0));
        due(1, x.swab(0));
        due(1, x.book(0, 0));
        due(0, x.book(0, 1));
    }

    @Edge(promise = 0, words = "MIXED, how many next CUTS are of mixed COLOUR (0 at first)")
    static void mixedRunsOutAtZero() {
        GobRow x = new GobRow();
        due(0, x.many(12));
        due(0, x.cut(1));
        due(0, x.many(12));
        due(0, x.bottle(0, 5));
        due(1, x.glass(1, 1));
        due(1, x.many(12));
        due(0, x.cut(1));
        due(0, x.many(12));
        due(1, x.bottle(1, 5));
        due(0, x.cut(1));
        due(0, x.many(12));
        due(2, x.bottle(2, 5));
    }

    @Edge(promise = 0, words = "1 its CUT was of mixed COLOUR")
    static void mostMixed() {
        GobRow x = withOneSection();
        due(1, x.aim(0, 500, 3));
        due(1, x.glass(3, 50));
        due(38, x.cut(50));
        due(0, x.many(12));
        due(12, x.drain());
        due(50, x.many(3));
        due(50, x.swab(0));
        due(0, judgedNow(x));
        due(50, x.many(3));
        // each of them is told as mixed though the COLOUR is right, and the last one too
        GobRow y = withOneSection();
        due(1, y.aim(0, 500, 3));
        due(1, y.glass(3, 2));
        due(0, y.cut(3));
        due(1, y.bottle(0, 5));
        due(1, y.bottle(1, 5));
        due(0, y.bottle(2, 5));
    }

    @Edge(promise = 0, words = "2 the COLOUR of GLASS was not its JOB's then")
    static void colourOfThen() {
        for (int glass = 0; glass < 4; glass++) {
            for (int job = 0; job < 4; job++) {
                GobRow x = new GobRow();
                due(1, x.aim(0, 500, job));
                due(glass == 0 ? GobRow.TWICE : 1, x.glass(glass, 0));
                due(0, x.cut(1));
                due(glass == job ? 0 : 2, x.bottle(0, 5));
                // later COLOURS of both don't count
                due(1, x.aim(0, 500, (job + 1) % 4));
                due(glass == job ? 0 : 2, x.bottle(0, 5));
                due(1, x.glass((glass + 1) % 4, 5));
                due(glass == job ? 0 : 2, x.bottle(0, 5));
            }
        }
    }

    @Edge(promise = 0, words = "3 DUST of its MOULD was above 8 then (with this one)")
    static void eighthAndNinthUse() {
        GobRow x = withOneSection();
        due(0, x.cut(9));
        due(0, x.bottle(7, 5));
        due(3, x.bottle(8, 5));
        due(9, x.book(0, 1));
        // what the DUST is later doesn't count
        due(9, x.swab(0));
        due(0, x.bottle(7, 5));
        due(3, x.bottle(8, 5));
        due(9, x.drain());
        due(8, x.many(2));
        due(1, x.many(5));
        due(0, x.cut(8));
        due(0, x.bottle(7, 5));
        due(0, x.cut(1));
        due(3, x.bottle(8, 5));
    }

    @Edge(promise = 0, words = "4 USES above LASTS (200 at first) then (with this one)")
    static void twoHundredUsesAtFirst() {
        GobRow x = withOneSection();
        due(88, x.cut(100));
        due(99, x.cut(99));
        due(12, x.drain());
        due(199, x.swab(0));
        due(0, judgedNow(x));
        due(200, x.book(0, 0));
        due(4, judgedNow(x));
        due(201, x.book(0, 0));
        due(1, x.many(6));
    }

    @Edge(promise = 0, words = "4 USES above LASTS (200 at first) then (with this one)")
    static void fewestAndMostThatItLasts() {
        GobRow x = withOneSection();
        due(200, x.rule(1, 1));
        due(0, x.cut(2));
        due(0, x.bottle(0, 5));
        due(4, x.bottle(1, 5));
        // LASTS and USES of later don't count
        due(1, x.rule(1, 1000));
        due(4, x.bottle(1, 5));
        due(2, x.repair(0));
        due(4, x.bottle(1, 5));
        due(2, x.drain());
        for (int k = 0; k < 9; k++) {
            due(k == 0 ? 88 : 100, x.cut(100));
        }
        due(99, x.cut(99));
        due(12, x.drain());
        due(999, x.swab(0));
        due(0, judgedNow(x));
        due(4, judgedNow(x));
        due(1001, x.repair(0));
        due(0, judgedNow(x));
    }

    @Edge(promise = 0, words = "5 its MOULD is PULLED as it comes off the belt")
    static void pulledAsItComesOff() {
        GobRow x = withOneSection();
        // PULLED at the CUT, but no more as it comes off
        due(1, x.pull(0, true));
        due(0, x.cut(1));
        due(5, x.bottle(0, 5));
        due(1, x.pull(0, false));
        due(0, x.bottle(0, 5));
        due(1, x.drain());
        due(1, x.many(2));
        // PULLED while it is on THE BELT, the last moment being ahead of the 13th CUT
        due(0, x.cut(12));
        due(1, x.pull(0, true));
        due(1, x.cut(1));
        due(1, x.many(7));
        due(1, x.pull(0, false));
        due(1, x.cut(1));
        due(1, x.many(7));
        due(2, x.many(2));
        // the MOULD that counts is the bottle's, not the one that its SECTION has now
        GobRow y = withOneSection();
        due(0, y.cut(1));
        due(0, y.mould(0, 29));
        due(1, y.pull(29, true));
        due(0, y.bottle(0, 5));
        due(1, y.pull(0, true));
        due(5, y.bottle(0, 5));
        due(1, y.repair(0));
        due(0, y.bottle(0, 5));
    }

    @Edge(promise = 0, words = "6 its WEIGHT is off its JOB's AIM (as it was then) by more than 20")
    static void offByTwenty() {
        int[][] edges = {{20, 0}, {21, 6}, {-20, 0}, {-21, 6}, {200, 6}, {-200, 6}, {0, 0}};
        for (int aim : new int[] {100, 500, 900}) {
            for (int[] edge : edges) {
                GobRow x = new GobRow();
                due(1, x.aim(0, aim, 0));
                drift(x, edge[0]);
                due(0, x.cut(1));
                due(aim + edge[0], x.bottle(0, 4));
                due(edge[1], x.bottle(0, 5));
                // another AIM, or another JOB, comes too late for it
                due(1, x.aim(0, 1000 - aim, 0));
                due(0, x.job(0, 1));
                due(edge[1], x.bottle(0, 5));
                due(1, x.drain());
                due(1, x.many(2 + edge[1]));
            }
        }
    }

    @Edge(promise = 0, words = "A bottle is BAD for the first of these")
    static void firstReasonOfAll() {
        GobRow x = withOneSection();
        due(0, x.cut(8));
        due(8, x.drain());
        due(200, x.rule(1, 1));
        due(1, x.pull(0, true));
        drift(x, 100);
        due(1, x.glass(1, 1));
        // each time the reason told last falls away
        due(1, judgedNow(x));
        due(2, judgedNow(x));
        due(1, x.glass(0, 0));
        due(3, judgedNow(x));
        due(11, x.swab(0));
        due(4, judgedNow(x));
        due(1, x.rule(1, 1000));
        due(5, judgedNow(x));
        due(1, x.pull(0, false));
        due(6, judgedNow(x));
        drift(x, 500 - x.many(10));
        due(0, judgedNow(x));
        noneIsLost(x);
    }

    @Edge(promise = 0, words = "THE BELT holds 12 bottles: when a CUT comes, and it holds 12, the eldest comes off ahead of it, and is judged.")
    static void beltOfTwelve() {
        GobRow x = new GobRow();
        due(0, x.many(1));
        for (int k = 1; k <= 12; k++) {
            due(0, x.cut(1));
            due(k, x.many(1));
            due(0, x.many(2));
        }
        due(1, x.cut(1));
        due(12, x.many(1));
        due(1, x.many(2));
        due(1, x.bottle(0, 0));
        due(12, x.bottle(11, 0));
        noneIsLost(x);
        // it comes off ahead of the CUT: that is weighed by the TUBE which it STEERED
        GobRow y = new GobRow();
        drift(y, 20);
        due(0, y.cut(12));
        due(520, y.bottle(11, 4));
        due(1, y.cut(1));
        due(510, y.bottle(11, 4));
        due(520, y.bottle(10, 4));
    }

    @Edge(promise = 0, words = "if its number is a multiple of 4")
    static void everyFourthSteers() {
        GobRow x = new GobRow();
        drift(x, 100);
        due(0, x.cut(12));
        due(500, x.many(10));
        drift(x, 0);
        int[] tubes = {450, 450, 450, 450, 400, 400, 400, 400, 350, 350, 350, 350};
        for (int number = 0; number < 12; number++) {
            due(1, x.cut(1));
            due(tubes[number], x.many(10));
        }
        // bottle 12 was weighed at 450
        due(1, x.cut(1));
        due(375, x.many(10));
    }

    @Edge(promise = 0, words = "TUBE is so much more as its JOB's AIM (as it was then) less its WEIGHT, by 2 (cut towards 0)")
    static void halvesAreCutTowardsZero() {
        int[][] edges = {{0, 0}, {1, 0}, {-1, 0}, {2, -1}, {-2, 1}, {3, -1}, {-3, 1}, {199, -99}, {-199, 99}, {200, -100}, {-200, 100}};
        for (int[] edge : edges) {
            GobRow x = new GobRow();
            due(1, x.aim(0, 700, 0));
            drift(x, edge[0]);
            due(0, x.cut(1));
            // the AIM of later doesn't count
            due(1, x.aim(0, 100, 0));
            due(1, x.drain());
            due(500 + edge[1], x.many(10));
        }
    }

    @Edge(promise = 0, words = "but between 100 and 900 always")
    static void tubeUpToNineHundred() {
        // from 200: 250 and 250 more, and then 199, 200 or 201
        int[][] edges = {{-98, 899}, {-99, 899}, {-100, 900}, {-101, 900}, {-102, 900}, {-200, 900}};
        for (int[] edge : edges) {
            GobRow x = new GobRow();
            steer(x, 200, 200, 200);
            due(200, x.many(10));
            steer(x, -200, -200, edge[0]);
            due(edge[1], x.many(10));
        }
    }

    @Edge(promise = 0, words = "but between 100 and 900 always")
    static void tubeDownToOneHundred() {
        // from 800: 250 and 250 less, and then 199, 200 or 201
        int[][] edges = {{98, 101}, {99, 101}, {100, 100}, {101, 100}, {102, 100}, {200, 100}};
        for (int[] edge : edges) {
            GobRow x = new GobRow();
            steer(x, -200, -200, -200);
            due(800, x.many(10));
            steer(x, 200, 200, edge[0]);
            due(edge[1], x.many(10));
        }
    }

    @Edge(promise = 0, words = "but between 100 and 900 always")
    static void tubeComesBackFromItsEnds() {
        GobRow x = new GobRow();
        steer(x, 200, 200, 200);
        steer(x, -200, -200, -200);
        due(900, x.many(10));
        steer(x, 0);
        due(700, x.many(10));
        GobRow y = new GobRow();
        steer(y, -200, -200, -200);
        steer(y, 200, 200, 200);
        due(100, y.many(10));
        steer(y, 0);
        due(300, y.many(10));
    }

    @Edge(promise = 0, words = "A bottle that comes off STEERS")
    static void badBottlesSteerToo() {
        GobRow x = new GobRow();
        due(1, x.glass(1, 1));
        drift(x, 40);
        due(0, x.cut(1));
        due(1, x.bottle(0, 5));
        due(1, x.drain());
        due(480, x.many(10));
    }

    // ---- promise 1

    @Edge(promise = 1, words = "DRUMS, ARMS and all else as told; no LAWS, nothing cut.")
    static void nothingInANewObject() {
        GobRow x = new GobRow();
        int[] counts = {0, 0, 0, 0, 0, 0, 0, 0, 0, 6, 500, 0, 0, 0, 10, 0};
        for (int what = 0; what < 16; what++) {
            due(counts[what], x.many(what));
        }
        due(GobRow.NONE, x.repeal());
        due(GobRow.NUMBER, x.bottle(0, 0));
        due(0, x.drain());
        due(0, x.forget());
        due(GobRow.NONE, x.arm(0));
        due(0, x.rule(0, 0));
        due(200, x.rule(1, 200));
        for (int mould = 0; mould < 30; mould++) {
            due(0, x.book(mould, 2));
            due(0, x.book(mould, 3));
            due(0, x.book(mould, 4));
        }
    }

    @Edge(promise = 1, words = "A new object")
    static void objectsHaveNothingInCommon() {
        GobRow x = new GobRow();
        GobRow y = new GobRow();
        due(1, x.set(0, 0, 5, 6));
        due(0, x.law(1, 0, 1, 0));
        due(1, x.knot(0, 9));
        due(1, x.arm(0));
        due(1, x.knot(0, 9));
        due(1, x.cut(13));
        due(5, x.stop(0));
        due(0, y.act(0, 0, 0, 0));
        due(0, y.many(13));
        due(0, y.place(0, 0, 0));
        due(0, y.forget());
        due(0, y.many(0));
        due(6, y.many(9));
        due(0, y.book(0, 0));
    }

    // ---- promise 16

    @Edge(promise = 16, words = "A SECTION RUNS no more: how many do. NUMBER: there is none such; TWICE: it doesn't.")
    static void stopDownToNone() {
        GobRow x = new GobRow();
        for (int section = 5; section >= 0; section--) {
            due(section, x.stop(section));
            due(GobRow.TWICE, x.stop(section));
            due(section, x.many(9));
            due(section == 0 ? -1 : 0, x.many(11));
        }
        for (int section = 0; section < 6; section++) {
            due(GobRow.TWICE, x.stop(section));
        }
        due(GobRow.NUMBER, x.stop(6));
        due(GobRow.NUMBER, x.stop(-1));
        due(0, x.many(9));
    }

    @Edge(promise = 16, words = "(It goes out of the ORDER; the turn is the next one's, if it was its own.)")
    static void stopOfTheOneWhoseTurnItIs() {
        for (int turn = 0; turn < 6; turn++) {
            for (int stopped = 0; stopped < 6; stopped++) {
                GobRow x = new GobRow();
                due(0, x.cut(6 + turn));
                due(turn, x.many(11));
                due(5, x.stop(stopped));
                // the last one's turn goes to the first one
                int next = turn == stopped ? (turn + 1) % 6 : turn;
                due(next, x.many(11));
                due(6 + turn, x.drain());
                due(0, x.cut(5));
                for (int k = 0; k < 5; k++) {
                    due(next, x.bottle(k, 1));
                    next = (next + 1) % 6 == stopped ? (next + 2) % 6 : (next + 1) % 6;
                }
            }
        }
    }

    @Edge(promise = 16, words = "the turn is the next one's, if it was its own")
    static void stopOneAfterTheOther() {
        GobRow x = new GobRow();
        due(0, x.cut(5));
        due(5, x.many(11));
        due(5, x.stop(5));
        due(0, x.many(11));
        due(4, x.stop(0));
        due(1, x.many(11));
        due(3, x.stop(1));
        due(2, x.stop(2));
        due(3, x.many(11));
        due(1, x.stop(4));
        due(3, x.many(11));
        due(0, x.cut(2));
        due(3, x.bottle(5, 1));
        due(3, x.bottle(6, 1));
        due(0, x.stop(3));
        due(-1, x.many(11));
        due(7, x.many(1));
    }

    // ---- promise 17

    @Edge(promise = 17, words = "A SECTION RUNS again, last in the ORDER: how many do. NUMBER: there is none such; TWICE: it does.")
    static void startFromNoneToAll() {
        GobRow x = new GobRow();
        for (int section = 0; section < 6; section++) {
            due(GobRow.TWICE, x.start(section));
        }
        due(GobRow.NUMBER, x.start(6));
        due(GobRow.NUMBER, x.start(-1));
        due(6, x.many(9));
        stopAll(x);
        due(-1, x.many(11));
        due(GobRow.NUMBER, x.start(6));
        for (int section = 5; section >= 0; section--) {
            due(6 - section, x.start(section));
            due(GobRow.TWICE, x.start(section));
            due(5, x.many(11));
        }
        due(0, x.cut(7));
        for (int k = 0; k < 7; k++) {
            due((11 - k) % 6, x.bottle(k, 1));
        }
    }

    @Edge(promise = 17, words = "last in the ORDER")
    static void startedOneWaitsForItsTurn() {
        GobRow x = new GobRow();
        // the turn has just gone from the last one to the first one
        due(0, x.cut(6));
        due(5, x.stop(5));
        due(0, x.many(11));
        due(6, x.start(5));
        due(0, x.many(11));
        // its own turn: stopped and started, it is last
        due(5, x.stop(0));
        due(1, x.many(11));
        due(6, x.start(0));
        due(1, x.many(11));
        due(0, x.cut(6));
        int[] order = {1, 2, 3, 4, 5, 0};
        for (int k = 0; k < 6; k++) {
            due(order[k], x.bottle(6 + k, 1));
        }
        // the turn is the last one's: the new one is right behind it
        due(5, x.stop(1));
        due(12, x.drain());
        due(0, x.cut(4));
        due(0, x.many(11));
        due(6, x.start(1));
        due(0, x.cut(3));
        due(0, x.bottle(4, 1));
        due(1, x.bottle(5, 1));
        due(2, x.bottle(6, 1));
    }

    // ---- promise 18

    @Edge(promise = 18, words = "The JOB of a SECTION is another one: what it was. NUMBER: there is no such SECTION, or JOB.")
    static void firstAndLastJob() {
        GobRow x = new GobRow();
        due(0, x.job(0, 3));
        due(3, x.job(0, 3));
        due(GobRow.NUMBER, x.job(0, 4));
        due(GobRow.NUMBER, x.job(0, -1));
        due(GobRow.NUMBER, x.job(6, 4));
        due(GobRow.NUMBER, x.job(-1, -1));
        due(3, x.job(0, 0));
        due(0, x.job(5, 3));
        due(GobRow.NUMBER, x.job(6, 3));
        due(3, x.job(5, 0));
    }

    // ---- promise 19

    @Edge(promise = 19, words = "NUMBER: there is none such, aim isn't 100 to 900, or colour not 0 to 3.")
    static void leastAndMostAim() {
        GobRow x = new GobRow();
        due(0, x.job(0, 3));
        due(1, x.aim(3, 100, 3));
        due(GobRow.NUMBER, x.aim(3, 99, 0));
        due(GobRow.NUMBER, x.aim(3, 901, 0));
        due(GobRow.NUMBER, x.aim(3, 500, 4));
        due(GobRow.NUMBER, x.aim(3, 500, -1));
        due(GobRow.NUMBER, x.aim(4, 500, 0));
        due(GobRow.NUMBER, x.aim(-1, 500, 0));
        due(GobRow.NUMBER, x.aim(4, 99, 4));
        due(1, x.glass(3, 0));
        due(0, x.cut(1));
        due(100, x.bottle(0, 4));
        due(0, x.bottle(0, 5));
        due(1, x.aim(3, 900, 0));
        due(0, x.cut(6));
        due(900, x.bottle(6, 4));
        due(2, x.bottle(6, 5));
    }

    // ---- promise 20

    @Edge(promise = 20, words = "NUMBER: colour isn't 0 to 3, or n not 0 to 50; TWICE: it is that already.")
    static void glassNumberAheadOfTwice() {
        Edges.range(0, 3, (x, v) -> x.glass(v, 1));
        Edges.range(0, 50, (x, v) -> x.glass(1, v));
        GobRow x = new GobRow();
        due(GobRow.TWICE, x.glass(0, 0));
        due(GobRow.TWICE, x.glass(0, 50));
        due(GobRow.NUMBER, x.glass(0, 51));
        due(GobRow.NUMBER, x.glass(0, -1));
        due(GobRow.NUMBER, x.glass(4, 51));
        due(0, x.many(12));
        due(1, x.glass(3, 50));
        due(GobRow.TWICE, x.glass(3, 0));
        due(GobRow.NUMBER, x.glass(3, 51));
        due(50, x.many(12));
        due(3, x.many(15));
        due(1, x.glass(0, 0));
        due(0, x.many(12));
        due(0, x.many(15));
    }

    @Edge(promise = 20, words = "the next n CUTS are MIXED (in place of what was left of these)")
    static void mixedInPlaceOfWhatWasLeft() {
        GobRow x = new GobRow();
        due(1, x.glass(1, 50));
        due(0, x.cut(2));
        due(48, x.many(12));
        due(1, x.glass(2, 50));
        due(50, x.many(12));
        due(1, x.glass(1, 1));
        due(1, x.many(12));
        due(1, x.glass(0, 0));
        due(0, x.many(12));
        due(0, x.cut(1));
        due(1, x.bottle(0, 5));
        due(1, x.bottle(1, 5));
        due(0, x.bottle(2, 5));
    }

    // ---- promise 21

    @Edge(promise = 21, words = "NUMBER: there is no such SECTION, or MOULD; TWICE: it is in some SECTION.")
    static void mouldNumberAheadOfTwice() {
        GobRow x = new GobRow();
        due(GobRow.TWICE, x.mould(0, 0));
        due(GobRow.NUMBER, x.mould(6, 0));
        due(GobRow.NUMBER, x.mould(-1, 5));
        due(GobRow.NUMBER, x.mould(0, 30));
        due(GobRow.NUMBER, x.mould(0, -1));
        due(GobRow.NUMBER, x.mould(6, 30));
        due(0, x.mould(0, 6));
        due(6, x.mould(0, 29));
        due(29, x.mould(0, 0));
    }

    // ---- promise 22

    @Edge(promise = 22, words = "A MOULD is swabbed: its DUST was so much, and is 0. NUMBER: there is none such.")
    static void swabFirstAndLastMould() {
        GobRow x = withOneSection();
        due(0, x.swab(0));
        due(0, x.swab(29));
        due(0, x.cut(9));
        due(GobRow.NUMBER, x.swab(30));
        due(GobRow.NUMBER, x.swab(-1));
        due(9, x.swab(0));
        due(0, x.swab(0));
        due(9, x.book(0, 0));
        due(0, x.mould(0, 29));
        due(0, x.cut(1));
        due(1, x.swab(29));
        due(1, x.book(29, 0));
    }

    // ---- promise 23

    @Edge(promise = 23, words = "its USES were so many, and are 0 (DUST, too; and it isn't PULLED). NUMBER: there is none such.")
    static void repairFirstAndLastMould() {
        GobRow x = withOneSection();
        due(0, x.repair(0));
        due(0, x.mould(0, 29));
        due(0, x.cut(9));
        due(1, x.pull(29, true));
        due(1, x.pull(0, true));
        due(GobRow.NUMBER, x.repair(30));
        due(GobRow.NUMBER, x.repair(-1));
        due(9, x.repair(29));
        due(0, x.book(29, 0));
        due(0, x.book(29, 1));
        due(0, x.book(29, 2));
        due(1, x.book(0, 2));
        due(0, x.repair(29));
        due(0, x.repair(0));
        due(0, x.book(0, 2));
    }

    // ---- promise 24

    @Edge(promise = 24, words = "A MOULD is PULLED, or not: 1 if that is new, else 0. NUMBER: there is none such.")
    static void pullFirstAndLastMould() {
        GobRow x = new GobRow();
        for (int mould : new int[] {0, 29}) {
            due(0, x.pull(mould, false));
            due(1, x.pull(mould, true));
            due(0, x.pull(mould, true));
            due(1, x.book(mould, 2));
        }
        due(0, x.book(1, 2));
        due(0, x.book(28, 2));
        due(GobRow.NUMBER, x.pull(30, true));
        due(GobRow.NUMBER, x.pull(-1, false));
        due(1, x.pull(29, false));
        due(0, x.book(29, 2));
        due(1, x.book(0, 2));
    }

    // ---- promise 25

    @Edge(promise = 25, words = "What = 0 DRIFT (-200 to 200), 1 LASTS (1 to 1000) is v: what it was; -1000: another what, or v isn't as told.")
    static void rules() {
        Edges.range(-200, 200, -1000, (x, v) -> x.rule(0, v));
        Edges.range(1, 1000, -1000, (x, v) -> x.rule(1, v));
        Edges.range(0, 1, -1000, (x, v) -> x.rule(v, 1));
        GobRow x = new GobRow();
        // what may be for one of them may not be for the other
        due(-1000, x.rule(0, 201));
        due(200, x.rule(1, 201));
        due(-1000, x.rule(1, 0));
        due(0, x.rule(0, 0));
        due(-1000, x.rule(1, -1));
        due(201, x.rule(1, 1000));
        due(-1000, x.rule(2, 1001));
    }

    @Edge(promise = 25, words = "what it was; -1000")
    static void whatItWasMayBeBelowZero() {
        GobRow x = new GobRow();
        int was = 0;
        // answers below 0 that refuse nothing, those of the constants among them
        for (int v : new int[] {-1, -2, -3, -4, -5, -100, -200, 200, -115, 0}) {
            due(was, x.rule(0, v));
            was = v;
        }
        due(0, x.rule(0, -200));
        due(-1000, x.rule(0, -201));
        due(-1000, x.rule(2, 7));
        due(-200, x.rule(0, 7));
        due(0, x.cut(1));
        due(507, x.bottle(0, 4));
    }

    // ---- promise 26

    @Edge(promise = 26, words = "5 its SECTION (-1: none). NUMBER: there is none such, another what.")
    static void bookWhat() {
        Edges.range(0, 5, (x, v) -> x.book(0, v));
        GobRow x = new GobRow();
        due(0, x.book(0, 5));
        due(5, x.book(5, 5));
        due(-1, x.book(6, 5));
        due(-1, x.book(29, 5));
        due(GobRow.NUMBER, x.book(30, 5));
        due(GobRow.NUMBER, x.book(30, 6));
        due(GobRow.NUMBER, x.book(-1, 0));
        due(5, x.mould(5, 29));
        due(5, x.book(29, 5));
        due(-1, x.book(5, 5));
    }

    @Edge(promise = 26, words = "3 bottles of it that were GOOD, 4 that were BAD")
    static void bookCountsAtTheFirstBadOne() {
        GobRow x = withOneSection();
        due(0, x.cut(9));
        due(0, x.book(0, 3));
        due(0, x.book(0, 4));
        due(9, x.drain());
        due(8, x.book(0, 3));
        due(1, x.book(0, 4));
        due(9, x.repair(0));
        due(8, x.book(0, 3));
        due(1, x.book(0, 4));
        // those that came off are the bottle's MOULD's, though another one is in the SECTION
        due(0, x.cut(2));
        due(0, x.mould(0, 29));
        due(2, x.drain());
        due(10, x.book(0, 3));
        due(0, x.book(29, 3));
    }

    // ---- promise 27

    @Edge(promise = 27, words = "NUMBER: n isn't 1 to 100; NONE: no SECTION RUNS.")
    static void cutNumberAheadOfNone() {
        Edges.range(1, 100, (x, v) -> x.cut(v));
        GobRow x = new GobRow();
        stopAll(x);
        due(GobRow.NONE, x.cut(1));
        due(GobRow.NONE, x.cut(100));
        due(GobRow.NUMBER, x.cut(0));
        due(GobRow.NUMBER, x.cut(101));
        due(0, x.many(0));
        due(1, x.start(4));
        due(88, x.cut(100));
        due(100, x.book(4, 0));
    }

    @Edge(promise = 27, words = "n CUTS come: how many bottles came off THE BELT.")
    static void howManyCameOff() {
        for (int before = 0; before <= 12; before++) {
            for (int n : new int[] {1, 11, 12, 13, 100}) {
                GobRow x = new GobRow();
                due(0, before == 0 ? 0 : x.cut(before));
                due(Math.max(0, before + n - 12), x.cut(n));
                due(Math.min(12, before + n), x.many(1));
                due(before + n, x.many(0));
                noneIsLost(x);
            }
        }
    }

    @Edge(promise = 27, words = "NONE: no SECTION RUNS.")
    static void nothingComesOffWhenNoneRuns() {
        GobRow x = new GobRow();
        due(0, x.cut(12));
        stopAll(x);
        due(GobRow.NONE, x.cut(1));
        due(12, x.many(1));
        due(0, x.many(2));
        due(12, x.many(0));
        due(12, x.drain());
        due(12, x.many(2));
    }

    // ---- promise 28

    @Edge(promise = 28, words = "All bottles come off THE BELT, the eldest first, and are judged (they STEER, too): how many.")
    static void drainNoneToTwelve() {
        GobRow x = new GobRow();
        due(0, x.drain());
        due(0, x.many(2));
        for (int count = 1; count <= 12; count++) {
            due(0, x.cut(count));
            due(count, x.drain());
            due(0, x.many(1));
            due(GobRow.NUMBER, x.bottle(0, 0));
            due(0, x.drain());
            noneIsLost(x);
        }
    }

    @Edge(promise = 28, words = "the eldest first")
    static void drainTheEldestFirst() {
        GobRow x = new GobRow();
        steer(x, -200, -200, -200);
        steer(x, 200, 200, 200);
        due(100, x.many(10));
        drift(x, -200);
        due(0, x.cut(12));
        drift(x, 200);
        due(5, x.cut(5));
        due(700, x.many(10));
        // bottle 32 STEERS by 300 (up to 900 alone), 36 by -50, 40 by -200: from the youngest on it would be 750
        due(12, x.drain());
        due(650, x.many(10));
    }

    @Edge(promise = 28, words = "(they STEER, too)")
    static void drainWhenNoneRuns() {
        GobRow x = new GobRow();
        drift(x, 200);
        due(0, x.cut(5));
        stopAll(x);
        due(5, x.drain());
        due(300, x.many(10));
        due(5, x.many(8));
        due(0, x.drain());
        due(300, x.many(10));
    }

    // ---- promise 29

    @Edge(promise = 29, words = "NUMBER: there is none such, another what.")
    static void firstAndLastBottle() {
        due(GobRow.NUMBER, new GobRow().bottle(0, 0));
        due(GobRow.NUMBER, new GobRow().bottle(-1, 0));
        for (int c = 1; c <= 12; c++) {
            int count = c;
            Edges.range(0, count - 1, (x, v) -> {
                x.cut(count);
                return x.bottle(v, 0);
            });
        }
        Edges.range(0, 5, (x, v) -> {
            x.cut(1);
            return x.bottle(0, v);
        });
        Edges.range(0, 11, (x, v) -> {
            x.cut(100);
            return x.bottle(v, 0);
        });
        GobRow x = new GobRow();
        due(0, x.cut(12));
        due(12, x.drain());
        due(GobRow.NUMBER, x.bottle(0, 0));
        due(GobRow.NUMBER, x.bottle(0, 6));
        due(0, x.cut(1));
        due(12, x.bottle(0, 0));
        due(GobRow.NUMBER, x.bottle(1, 0));
    }

    @Edge(promise = 29, words = "(from 0 on, the eldest first)")
    static void bottlesAfterManyRounds() {
        GobRow x = new GobRow();
        for (int step = 1; step <= 30; step++) {
            x.cut(step % 7 + 1);
            int first = x.many(0) - x.many(1);
            for (int k = 0; k < x.many(1); k++) {
                due(first + k, x.bottle(k, 0));
                due((first + k) % 6, x.bottle(k, 1));
            }
            if (step % 5 == 0) {
                x.drain();
            }
        }
    }

    @Edge(promise = 29, words = "5 what it would be judged now (0 GOOD, or for what it is BAD)")
    static void judgedNowChangesNothing() {
        GobRow x = new GobRow();
        due(0, x.cut(12));
        for (int k = 0; k < 12; k++) {
            due(0, x.bottle(k, 5));
        }
        due(0, x.many(2));
        due(12, x.many(1));
        due(0, x.book(0, 3));
        due(1, x.pull(5, true));
        due(5, x.bottle(5, 5));
        due(5, x.bottle(11, 5));
        due(0, x.bottle(10, 5));
        due(0, x.many(7));
    }

    // ---- promise 30

    @Edge(promise = 30, words = "-1 for another what.")
    static void manyWhat() {
        Edges.range(0, 15, (x, v) -> x.many(v));
        GobRow x = new GobRow();
        stopAll(x);
        due(-1, x.many(11));
        due(0, x.many(9));
        due(-1, x.many(-1));
        due(-1, x.many(16));
    }

    @Edge(promise = 30, words = "3 to 8 BAD ones for reason what - 2")
    static void manyOfFirstAndLastReason() {
        GobRow x = new GobRow();
        due(1, x.glass(1, 1));
        due(1, x.aim(0, 500, 1));
        due(0, x.cut(1));
        drift(x, 21);
        due(0, x.cut(1));
        drift(x, 0);
        due(0, x.cut(1));
        due(3, x.drain());
        int[] sums = {1, 1, 0, 0, 0, 0, 1};
        for (int reason = 0; reason <= 6; reason++) {
            due(sums[reason], x.many(2 + reason));
        }
        due(6, x.many(9));
        due(0, x.many(1));
    }
}
