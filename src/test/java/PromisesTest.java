/**
 * For each promise of the document: ordinary calls, the edges that it names, its refusals in their
 * order, and that a refused call changes nothing. Each answer was worked out from the document.
 */
public final class PromisesTest {
    private static final int MIN = Integer.MIN_VALUE;
    private static final int MAX = Integer.MAX_VALUE;
    private static final Check CHECK = new Check("PromisesTest");

    public static void main(String[] args) {
        newObject();
        set();
        setUnderLaws();
        turn();
        copy();
        lawNumbers();
        lawKinds();
        lawsAtTheirEdge();
        lawsInNumber();
        repeal();
        pace();
        fastest();
        act();
        would();
        arm();
        armBetweenBoth();
        armAtFractions();
        armNearAtOneKnot();
        knot();
        forget();
        place();
        nearest();
        nearestThroughZero();
        stop();
        stopAroundTurn();
        start();
        job();
        aim();
        glass();
        mould();
        swab();
        repair();
        pull();
        rule();
        book();
        cut();
        steering();
        tubeStaysBetween();
        drain();
        bottle();
        bottleReasons();
        bottleReasonsInOrder();
        many();
        CHECK.end();
    }

    private static void due(int want, int got) {
        StackTraceElement caller = StackWalker.getInstance().walk(s -> s.skip(1).findFirst().orElseThrow().toStackTraceElement());
        CHECK.due(caller.getMethodName() + ", line " + caller.getLineNumber() + ":", want, got);
    }

    // Promise 1

    private static void newObject() {
        GobRow x = new GobRow();
        for (int section = 0; section < 6; section++) {
            for (int act = 0; act < 8; act++) {
                due(40 * act, x.act(section, act, 0, 0));
                due(40 * act + 20, x.act(section, act, 1, 0));
            }
        }
        for (int arm = 0; arm < 3; arm++) {
            due(300 * arm, x.place(arm, 0, 0));
            due(300 * arm, x.place(arm, 359, 0));
            due(1, x.place(arm, 180, 1));
        }
        int[] counts = {0, 0, 0, 0, 0, 0, 0, 0, 0, 6, 500, 0, 0, 0, 10, 0};
        for (int what = 0; what < 16; what++) {
            due(counts[what], x.many(what));
        }
        for (int mould = 0; mould < 30; mould++) {
            for (int what = 0; what < 5; what++) {
                due(0, x.book(mould, what));
            }
            due(mould < 6 ? mould : -1, x.book(mould, 5));
        }
        due(0, x.forget());
        due(0, x.drain());
        due(60, x.fastest());
        due(GobRow.NONE, x.repeal());
        due(0, x.rule(0, 0));
        due(200, x.rule(1, 200));
        for (int section = 0; section < 6; section++) {
            due(0, x.job(section, 0));
        }
        due(0, x.cut(6));
        for (int k = 0; k < 6; k++) {
            due(k, x.bottle(k, 1));
            due(500, x.bottle(k, 4));
            due(0, x.bottle(k, 5));
        }
    }

    // Promise 2

    private static void set() {
        GobRow x = new GobRow();
        due(1, x.set(0, 0, 359, 0));
        due(359, x.act(0, 0, 0, 0));
        due(0, x.act(0, 0, 1, 0));
        due(1, x.set(5, 7, 0, 359));
        due(359, x.act(5, 7, 2, 0));
        due(280, x.act(4, 7, 0, 0));
        due(240, x.act(5, 6, 0, 0));
        int[][] wrong = {{-1, 0, 0, 1}, {6, 0, 0, 1}, {0, -1, 0, 1}, {0, 8, 0, 1}, {0, 0, -1, 1}, {0, 0, 360, 1},
            {0, 0, 1, -1}, {0, 0, 1, 360}, {0, 0, 7, 7}, {MIN, 0, 0, 1}, {0, MAX, 0, 1}, {0, 0, MIN, 1}, {0, 0, 0, MAX}};
        for (int[] w : wrong) {
            due(GobRow.NUMBER, x.set(w[0], w[1], w[2], w[3]));
        }
        due(359, x.act(0, 0, 0, 0));
        due(0, x.act(0, 0, 1, 0));
    }

    private static void setUnderLaws() {
        GobRow x = new GobRow();
        due(0, x.law(0, 0, 1, 20));
        due(1, x.law(1, 0, 1, 0));
        due(2, x.law(2, 0, 0, 333));
        due(GobRow.LAW, x.set(2, 0, 0, 21));
        due(GobRow.LAW - 1, x.set(2, 0, 0, 41));
        due(GobRow.LAW - 2, x.set(2, 0, 1, 20));
        // LAWS 0 and 2 both: the first one is told
        due(GobRow.LAW, x.set(2, 0, 20, 21));
        due(GobRow.NUMBER, x.set(2, 0, 21, 21));
        due(0, x.act(2, 0, 0, 0));
        due(20, x.act(2, 0, 1, 0));
        due(1, x.set(2, 0, 350, 20));
        due(350, x.act(2, 0, 0, 0));
        // it is this DRUM alone that counts, as it is now
        due(1, x.set(2, 0, 350, 15));
        due(1, x.set(2, 1, 35, 60));
        due(GobRow.LAW, x.set(3, 1, 35, 60));
    }

    // Promise 3

    private static void turn() {
        GobRow x = new GobRow();
        due(0, x.law(0, 7, 0, 60));
        due(1, x.law(1, 0, 1, 0));
        due(2, x.law(2, 0, 0, 333));
        due(1, x.turn(1, 350));
        due(350, x.act(1, 0, 0, 0));
        due(10, x.act(1, 0, 1, 0));
        due(30, x.act(1, 1, 0, 0));
        due(270, x.act(1, 7, 0, 0));
        due(290, x.act(1, 7, 1, 0));
        due(0, x.act(0, 0, 0, 0));
        due(1, x.turn(1, -350));
        due(0, x.act(1, 0, 0, 0));
        due(1, x.turn(1, -359));
        due(1, x.act(1, 0, 0, 0));
        due(1, x.turn(1, 359));
        due(0, x.act(1, 0, 0, 0));
        due(1, x.turn(1, -20));
        due(340, x.act(1, 0, 0, 0));
        due(0, x.act(1, 0, 1, 0));
        due(1, x.turn(1, 0));
        due(340, x.act(1, 0, 0, 0));
        due(GobRow.NUMBER, x.turn(-1, 0));
        due(GobRow.NUMBER, x.turn(6, 0));
        due(GobRow.NUMBER, x.turn(1, 360));
        due(GobRow.NUMBER, x.turn(1, -360));
        due(GobRow.NUMBER, x.turn(1, MIN));
        due(GobRow.NUMBER, x.turn(MAX, 1));
        due(340, x.act(1, 0, 0, 0));
    }

    // Promise 4

    private static void copy() {
        GobRow x = new GobRow();
        due(1, x.set(5, 3, 100, 200));
        due(1, x.turn(5, 1));
        due(1, x.copy(0, 5));
        due(101, x.act(0, 3, 0, 0));
        due(201, x.act(0, 3, 1, 0));
        due(1, x.act(0, 0, 0, 0));
        due(101, x.act(5, 3, 0, 0));
        due(120, x.act(1, 3, 0, 0));
        // what one DRUM does later is its own
        due(1, x.set(5, 3, 5, 6));
        due(101, x.act(0, 3, 0, 0));
        due(1, x.set(0, 3, 7, 8));
        due(5, x.act(5, 3, 0, 0));
        due(1, x.copy(2, 2));
        due(120, x.act(2, 3, 0, 0));
        due(GobRow.NUMBER, x.copy(6, 0));
        due(GobRow.NUMBER, x.copy(0, 6));
        due(GobRow.NUMBER, x.copy(-1, 0));
        due(GobRow.NUMBER, x.copy(0, -1));
        due(GobRow.NUMBER, x.copy(MIN, MAX));
        due(7, x.act(0, 3, 0, 0));
    }

    // Promise 5

    private static void lawNumbers() {
        GobRow x = new GobRow();
        int[][] wrong = {{-1, 0, 1, 0}, {4, 0, 1, 0}, {0, -1, 1, 0}, {0, 8, 1, 0}, {0, 0, -1, 0}, {0, 0, 8, 0},
            {2, 0, 8, 0}, {2, 0, -1, 0}, {0, 3, 3, 0}, {1, 3, 3, 0}, {3, 3, 3, 0}, {0, 0, 1, -1}, {0, 0, 1, 360},
            {1, 0, 1, -1}, {1, 0, 1, 60001}, {2, 0, 0, -1}, {2, 0, 0, 60001}, {3, 0, 1, -1}, {3, 0, 1, 60001},
            {MIN, 0, 1, 0}, {0, MAX, 1, 0}, {0, 0, MIN, 0}, {0, 0, 1, MAX}};
        for (int[] w : wrong) {
            due(GobRow.NUMBER, x.law(w[0], w[1], w[2], w[3]));
        }
        due(0, x.many(13));
        due(0, x.law(1, 0, 1, 60000));
        due(1, x.law(2, 3, 3, 0));
        due(2, x.law(2, 3, 4, 333));
        due(GobRow.LAW - 3, x.law(2, 3, 3, 60000));
        due(3, x.many(13));
    }

    private static void lawKinds() {
        GobRow x = new GobRow();
        // AHEAD through 0: from 300 up to 0 there are 60
        due(0, x.law(0, 7, 0, 60));
        due(GobRow.LAW - 1, x.law(0, 7, 0, 61));
        // OFF of 1 (60) up to ON of 0 (0): 300
        due(1, x.law(0, 1, 0, 300));
        due(GobRow.LAW - 2, x.law(0, 1, 0, 301));
        // OFF at the very DEGREE of ON: 0
        due(1, x.set(0, 2, 80, 120));
        due(GobRow.LAW - 2, x.law(0, 2, 3, 1));
        due(2, x.law(0, 2, 3, 0));
        // APART: the DEGREE of OFF is none at which it is done
        due(3, x.law(1, 2, 3, 0));
        due(GobRow.LAW - 3, x.set(0, 2, 80, 121));
        // WITHIN: also the very same DEGREES
        due(GobRow.LAW - 4, x.law(3, 5, 6, 0));
        for (int section = 0; section < 6; section++) {
            due(1, x.set(section, 5, 240, 260));
        }
        due(4, x.law(3, 5, 6, 0));
        due(5, x.law(3, 6, 5, 0));
        due(GobRow.LAW - 4, x.set(1, 5, 239, 260));
        due(GobRow.LAW - 4, x.set(1, 5, 240, 261));
        due(GobRow.LAW - 5, x.set(1, 5, 241, 260));
        due(GobRow.LAW - 5, x.set(1, 5, 240, 259));
        due(4 + 1, x.repeal());
        due(1, x.set(1, 6, 100, 99));
        due(GobRow.LAW - 4, x.set(1, 5, 98, 101));
        due(1, x.set(1, 5, 100, 99));
        // one DRUM is enough to break a LAW
        due(1, x.set(4, 7, 170, 180));
        due(GobRow.LAW - 5, x.law(1, 7, 4, 0));
        due(5, x.many(13));
        due(1, x.set(4, 7, 180, 190));
        due(5, x.law(1, 7, 4, 0));
    }

    private static void lawsAtTheirEdge() {
        GobRow x = new GobRow();
        for (int section = 0; section < 6; section++) {
            due(1, x.set(section, 0, 0, 41));
            due(1, x.set(section, 2, 0, 60));
        }
        // OFF one DEGREE behind ON: all the ring but one must be gone up
        due(0, x.law(0, 0, 1, 359));
        due(GobRow.LAW, x.set(0, 1, 41, 60));
        due(GobRow.LAW, x.set(0, 1, 39, 60));
        due(0, x.repeal());
        // 60 DEGREES times 500 are 30000, as 3 times 10 times 1000 are
        due(GobRow.LAW, x.law(2, 2, 2, 1001));
        due(0, x.law(2, 2, 2, 1000));
        due(10, x.fastest());
        due(GobRow.LAW, x.pace(11));
        due(10, x.pace(9));
        due(1, x.law(2, 2, 2, 1002));
        due(9, x.fastest());
        due(GobRow.LAW - 1, x.pace(10));
    }

    private static void lawsInNumber() {
        GobRow x = new GobRow();
        for (int k = 0; k < 16; k++) {
            due(k, x.law(2, k % 8, 0, k));
        }
        due(16, x.many(13));
        due(GobRow.FULL, x.law(2, 0, 0, 0));
        // FULL is ahead of LAW, NUMBER ahead of both
        due(GobRow.FULL, x.law(2, 0, 0, 60000));
        due(GobRow.NUMBER, x.law(2, 0, 0, 60001));
        due(1, x.set(0, 7, 280, 281));
        due(15, x.repeal());
        due(GobRow.LAW - 15, x.law(3, 0, 1, 0));
        due(15, x.law(2, 1, 1, 333));
        due(GobRow.LAW - 15, x.set(3, 1, 40, 59));
    }

    // Promise 6

    private static void repeal() {
        GobRow x = new GobRow();
        due(GobRow.NONE, x.repeal());
        due(0, x.law(0, 0, 1, 20));
        due(1, x.law(0, 1, 2, 20));
        due(1, x.repeal());
        due(1, x.many(13));
        // the latest one is gone, the first one stands
        due(1, x.set(0, 1, 40, 61));
        due(GobRow.LAW, x.set(0, 0, 0, 21));
        due(0, x.repeal());
        due(1, x.set(0, 0, 0, 21));
        due(GobRow.NONE, x.repeal());
        due(0, x.many(13));
    }

    // Promise 7

    private static void pace() {
        GobRow x = new GobRow();
        due(10, x.pace(60));
        due(60, x.many(14));
        due(60, x.pace(1));
        due(1, x.pace(1));
        due(1, x.pace(10));
        for (int wrong : new int[] {0, 61, -1, MIN, MAX}) {
            due(GobRow.NUMBER, x.pace(wrong));
        }
        due(10, x.many(14));
        due(0, x.law(1, 0, 1, 0));
        due(1, x.law(2, 1, 1, 111));
        due(2, x.law(2, 0, 0, 333));
        // 20 DEGREES times 500 are 10000; 3 times 11 times 333 are 10989
        due(GobRow.LAW - 2, x.pace(11));
        // 3 times 30 times 111 are 9990, 3 times 31 times 111 10323: the first LAW is told
        due(GobRow.LAW - 2, x.pace(30));
        due(GobRow.LAW - 1, x.pace(31));
        due(10, x.many(14));
        due(10, x.pace(5));
        due(5, x.pace(10));
        // one DRUM is enough
        for (int section = 0; section < 5; section++) {
            due(1, x.set(section, 0, 0, 40));
        }
        due(GobRow.LAW - 2, x.pace(11));
        due(1, x.set(5, 0, 0, 22));
        due(10, x.pace(11));
        due(11, x.many(14));
        // a set() is judged by PACE as it is
        due(GobRow.LAW - 2, x.set(5, 0, 0, 21));
    }

    // Promise 8

    private static void fastest() {
        GobRow x = new GobRow();
        due(60, x.fastest());
        due(0, x.law(2, 0, 0, 0));
        due(1, x.law(0, 0, 1, 20));
        due(60, x.fastest());
        due(2, x.law(2, 0, 0, 55));
        // 3 times 60 times 55 are 9900
        due(60, x.fastest());
        due(3, x.law(2, 1, 0, 56));
        // 3 times 59 times 56 are 9912, times 60 10080
        due(59, x.fastest());
        due(4, x.law(2, 0, 0, 333));
        due(10, x.fastest());
        due(10, x.pace(1));
        due(10, x.fastest());
        due(5, x.law(2, 0, 0, 3333));
        due(1, x.fastest());
        due(5, x.repeal());
        due(1, x.set(0, 0, 0, 11));
        // 11 times 500 are 5500; 3 times 333 999: 5
        due(5, x.fastest());
        due(1, x.many(14));
        due(1, x.pace(5));
    }

    // Promise 9

    private static void act() {
        GobRow x = new GobRow();
        due(1, x.set(3, 2, 350, 10));
        due(350, x.act(3, 2, 0, 0));
        due(10, x.act(3, 2, 1, 0));
        due(20, x.act(3, 2, 2, 0));
        due(0, x.act(3, 2, 3, 349));
        due(1, x.act(3, 2, 3, 350));
        due(1, x.act(3, 2, 3, 359));
        due(1, x.act(3, 2, 3, 0));
        due(1, x.act(3, 2, 3, 9));
        due(0, x.act(3, 2, 3, 10));
        due(0, x.act(3, 2, 3, 180));
        due(0, x.act(3, 1, 3, 39));
        due(1, x.act(3, 1, 3, 40));
        due(1, x.act(3, 1, 3, 59));
        due(0, x.act(3, 1, 3, 60));
        // for 0 to 2 degree counts nothing
        due(350, x.act(3, 2, 0, 360));
        due(10, x.act(3, 2, 1, -1));
        due(20, x.act(3, 2, 2, MAX));
        due(GobRow.NUMBER, x.act(3, 2, 3, 360));
        due(GobRow.NUMBER, x.act(3, 2, 3, -1));
        due(GobRow.NUMBER, x.act(3, 2, 4, 0));
        due(GobRow.NUMBER, x.act(3, 2, -1, 0));
        due(GobRow.NUMBER, x.act(6, 2, 0, 0));
        due(GobRow.NUMBER, x.act(-1, 2, 0, 0));
        due(GobRow.NUMBER, x.act(3, 8, 0, 0));
        due(GobRow.NUMBER, x.act(3, -1, 0, 0));
        due(GobRow.NUMBER, x.act(MIN, MAX, MIN, MAX));
    }

    // Promise 10

    private static void would() {
        GobRow x = new GobRow();
        due(0, x.would(0, 0, 0, 300));
        due(0, x.law(0, 0, 1, 20));
        due(1, x.law(1, 0, 2, 0));
        due(2, x.law(2, 0, 0, 333));
        due(0, x.would(0, 0, 0, 20));
        due(0, x.would(0, 0, 350, 20));
        due(1, x.would(0, 0, 0, 21));
        due(2, x.would(0, 0, 70, 90));
        due(3, x.would(0, 0, 1, 20));
        due(1, x.would(0, 0, 20, 21));
        due(0, x.act(0, 0, 0, 0));
        due(20, x.act(0, 0, 1, 0));
        int[][] wrong = {{-1, 0, 0, 1}, {6, 0, 0, 1}, {0, -1, 0, 1}, {0, 8, 0, 1}, {0, 0, -1, 1}, {0, 0, 360, 1},
            {0, 0, 1, -1}, {0, 0, 1, 360}, {0, 0, 7, 7}, {MAX, MIN, MAX, MIN}};
        for (int[] w : wrong) {
            due(GobRow.NUMBER, x.would(w[0], w[1], w[2], w[3]));
        }
    }

    // Promise 11

    private static void arm() {
        GobRow x = new GobRow();
        due(GobRow.NONE, x.arm(0));
        due(GobRow.NUMBER, x.arm(3));
        due(GobRow.NUMBER, x.arm(-1));
        due(1, x.knot(10, 251));
        due(GobRow.NUMBER, x.arm(3));
        due(GobRow.NEAR, x.arm(0));
        due(GobRow.NEAR, x.arm(2));
        due(0, x.place(0, 10, 0));
        due(600, x.place(2, 10, 0));
        // what was told is told still
        due(2, x.knot(11, 251));
        due(2, x.forget());
        due(1, x.knot(10, 250));
        due(1, x.arm(0));
        due(250, x.place(0, 300, 0));
        due(0, x.forget());
        due(GobRow.NONE, x.arm(0));
        due(250, x.place(0, 300, 0));
        // the new KNOTS are all there are: none of the old ones is left
        due(1, x.knot(100, 0));
        due(2, x.knot(200, 100));
        due(2, x.arm(0));
        due(1, x.knot(0, 250));
        due(1, x.arm(0));
        due(250, x.place(0, 100, 0));
        due(250, x.place(0, 200, 0));
        due(1, x.knot(359, 1000));
        due(1, x.arm(2));
        due(1000, x.place(2, 0, 0));
        for (int k = 0; k < 6; k++) {
            due(k + 1, x.knot(60 * k, 300 + k));
        }
        due(6, x.arm(1));
        due(305, x.place(1, 300, 0));
        due(0, x.nearest(0, 1));
        due(300, x.nearest(1, 2));
    }

    private static void armBetweenBoth() {
        GobRow x = new GobRow();
        due(1, x.knot(0, 49));
        due(GobRow.NEAR, x.arm(1));
        due(1, x.forget());
        due(1, x.knot(0, 551));
        due(GobRow.NEAR, x.arm(1));
        due(1, x.forget());
        due(1, x.knot(0, 50));
        due(2, x.knot(180, 550));
        due(2, x.arm(1));
        due(300, x.place(1, 90, 0));
        // ARM 2 at 180 stands at 600, just clear; ARM 0 too, at 0
        due(1, x.knot(0, 1));
        due(GobRow.NEAR, x.arm(0));
        due(1, x.forget());
        due(1, x.knot(0, 0));
        due(2, x.knot(180, 500));
        due(2, x.arm(0));
        due(1, x.knot(0, 1000));
        due(2, x.knot(180, 599));
        due(GobRow.NEAR, x.arm(2));
        due(2, x.forget());
        due(1, x.knot(0, 100));
        due(2, x.knot(180, 600));
        due(2, x.arm(2));
    }

    private static void armAtFractions() {
        GobRow x = new GobRow();
        // ARM 0 from 0 at DEGREE 0 to 100 at DEGREE 3: at DEGREE 1 it is at 100 / 3
        due(1, x.knot(0, 0));
        due(2, x.knot(3, 100));
        due(2, x.arm(0));
        due(1, x.knot(0, 300));
        due(2, x.knot(1, 83));
        due(3, x.knot(2, 300));
        due(GobRow.NEAR, x.arm(1));
        due(3, x.forget());
        due(1, x.knot(0, 300));
        due(2, x.knot(1, 84));
        due(3, x.knot(2, 300));
        due(3, x.arm(1));
        due(100, x.place(0, 1, 0));
        due(3, x.place(0, 1, 1));
    }

    private static void armNearAtOneKnot() {
        GobRow x = new GobRow();
        // of ARM 0 at 10 alone: at 0 it is at 260 times 160 / 170, below 250
        due(1, x.knot(10, 260));
        due(2, x.knot(200, 0));
        due(GobRow.NEAR, x.arm(0));
        due(2, x.forget());
        due(1, x.knot(0, 240));
        due(1, x.arm(0));
        // of ARM 1 at 10 alone: at 0 it is above 290
        due(1, x.knot(10, 280));
        due(2, x.knot(200, 550));
        due(GobRow.NEAR, x.arm(1));
        due(2, x.forget());
        // the last of six
        for (int k = 0; k < 5; k++) {
            due(k + 1, x.knot(10 * k, 290));
        }
        due(6, x.knot(50, 289));
        due(GobRow.NEAR, x.arm(1));
    }

    // Promise 12

    private static void knot() {
        GobRow x = new GobRow();
        int[][] wrong = {{-1, 0}, {360, 0}, {0, -1}, {0, 1001}, {MIN, 0}, {0, MAX}};
        for (int[] w : wrong) {
            due(GobRow.NUMBER, x.knot(w[0], w[1]));
        }
        due(1, x.knot(0, 0));
        due(GobRow.NUMBER, x.knot(0, 5));
        due(2, x.knot(5, 1000));
        due(GobRow.NUMBER, x.knot(4, 5));
        due(3, x.knot(6, 5));
        due(4, x.knot(7, 5));
        due(5, x.knot(8, 5));
        due(6, x.knot(9, 5));
        due(GobRow.FULL, x.knot(10, 5));
        due(GobRow.FULL, x.knot(359, 1000));
        // NUMBER is ahead of FULL
        due(GobRow.NUMBER, x.knot(9, 5));
        due(GobRow.NUMBER, x.knot(360, 5));
        due(GobRow.NUMBER, x.knot(10, 1001));
        due(6, x.forget());
        due(1, x.knot(359, 7));
        due(GobRow.NUMBER, x.knot(359, 7));
        due(1, x.arm(0));
        // told anew, from none on
        due(1, x.knot(0, 7));
    }

    // Promise 13

    private static void forget() {
        GobRow x = new GobRow();
        due(0, x.forget());
        due(1, x.knot(100, 0));
        due(2, x.knot(200, 0));
        due(2, x.forget());
        due(0, x.forget());
        due(GobRow.NONE, x.arm(0));
        due(1, x.knot(50, 9));
        due(1, x.arm(0));
        due(9, x.place(0, 0, 0));
        due(0, x.forget());
        due(9, x.place(0, 0, 0));
    }

    // Promise 14

    private static void place() {
        GobRow x = new GobRow();
        due(1, x.knot(100, 0));
        due(2, x.knot(200, 240));
        due(3, x.knot(300, 10));
        due(3, x.arm(0));
        due(0, x.place(0, 100, 0));
        due(1, x.place(0, 100, 1));
        due(12, x.place(0, 101, 0));
        due(5, x.place(0, 101, 1));
        due(120, x.place(0, 150, 0));
        due(1, x.place(0, 150, 1));
        due(240, x.place(0, 200, 0));
        // 240 less 23 / 10
        due(2377, x.place(0, 201, 0));
        due(10, x.place(0, 201, 1));
        // from 300 through 0 to 100: 160 DEGREES, down by 10
        due(159, x.place(0, 301, 0));
        due(16, x.place(0, 301, 1));
        due(25, x.place(0, 0, 0));
        due(4, x.place(0, 0, 1));
        due(5, x.place(0, 20, 0));
        due(1, x.place(0, 20, 1));
        due(1, x.place(0, 99, 0));
        due(16, x.place(0, 99, 1));
        due(300, x.place(1, 77, 0));
        due(1, x.place(1, 77, 1));
        int[][] wrong = {{-1, 0, 0}, {3, 0, 0}, {0, -1, 0}, {0, 360, 0}, {0, 0, 2}, {0, 0, -1}, {MIN, 0, 0}, {0, MAX, 0}, {0, 0, MIN}};
        for (int[] w : wrong) {
            due(GobRow.NUMBER, x.place(w[0], w[1], w[2]));
        }
    }

    // Promise 15

    private static void nearest() {
        GobRow x = new GobRow();
        due(0, x.nearest(0, 1));
        due(0, x.nearest(0, 2));
        due(0, x.nearest(1, 2));
        due(1, x.knot(10, 0));
        due(2, x.knot(90, 240));
        due(3, x.knot(120, 240));
        due(4, x.knot(300, 240));
        due(4, x.arm(0));
        // level from 90 on: the first DEGREE of it
        due(90, x.nearest(0, 1));
        due(90, x.nearest(0, 2));
        due(0, x.nearest(1, 2));
        due(1, x.knot(200, 290));
        due(2, x.knot(250, 400));
        due(2, x.arm(1));
        due(200, x.nearest(0, 1));
        due(250, x.nearest(1, 2));
        int[][] wrong = {{0, 0}, {1, 0}, {2, 1}, {0, 3}, {-1, 1}, {3, 4}, {-2, -1}, {MIN, MAX}, {1, 1}, {2, 2}};
        for (int[] w : wrong) {
            due(GobRow.NUMBER, x.nearest(w[0], w[1]));
        }
    }

    private static void nearestThroughZero() {
        GobRow x = new GobRow();
        // level from 300 through 0 to 20: 0 is the first DEGREE of the ring that is so
        due(1, x.knot(20, 200));
        due(2, x.knot(100, 0));
        due(3, x.knot(300, 200));
        due(3, x.arm(0));
        due(0, x.nearest(0, 1));
        // not level through 0: just up to 359
        due(1, x.knot(0, 100));
        due(2, x.knot(340, 200));
        due(3, x.knot(359, 200));
        due(3, x.arm(0));
        due(340, x.nearest(0, 1));
        // both go up side by side from 40 to 90: level between them though neither is
        due(1, x.knot(40, 0));
        due(2, x.knot(90, 200));
        due(3, x.knot(91, 0));
        due(3, x.arm(0));
        due(1, x.knot(0, 400));
        due(2, x.knot(40, 100));
        due(3, x.knot(90, 300));
        due(4, x.knot(91, 400));
        due(4, x.arm(1));
        due(40, x.nearest(0, 1));
        // no ARM has a KNOT at 0, and the line through 0 is level
        due(1, x.knot(20, 0));
        due(1, x.arm(0));
        due(1, x.knot(150, 300));
        due(1, x.arm(1));
        due(0, x.nearest(0, 1));
        due(1, x.knot(20, 200));
        due(2, x.knot(100, 0));
        due(3, x.knot(300, 200));
        due(3, x.arm(0));
        due(0, x.nearest(0, 1));
        due(1, x.knot(20, 200));
        due(2, x.knot(100, 0));
        due(2, x.arm(0));
        due(20, x.nearest(0, 1));
    }

    // Promise 16

    private static void stop() {
        GobRow x = new GobRow();
        due(GobRow.NUMBER, x.stop(6));
        due(GobRow.NUMBER, x.stop(-1));
        due(GobRow.NUMBER, x.stop(MAX));
        due(5, x.stop(2));
        due(GobRow.TWICE, x.stop(2));
        due(5, x.many(9));
        due(0, x.many(11));
        due(0, x.cut(6));
        int[] order = {0, 1, 3, 4, 5, 0};
        for (int k = 0; k < 6; k++) {
            due(order[k], x.bottle(k, 1));
        }
        due(4, x.stop(1));
        due(3, x.many(11));
        due(3, x.stop(3));
        due(2, x.stop(5));
        due(1, x.stop(0));
        due(4, x.many(11));
        due(0, x.stop(4));
        due(-1, x.many(11));
        due(0, x.many(9));
        due(GobRow.TWICE, x.stop(4));
        due(GobRow.NUMBER, x.stop(6));
        // what it made stays
        due(6, x.many(1));
    }

    private static void stopAroundTurn() {
        GobRow x = new GobRow();
        due(0, x.cut(3));
        due(3, x.many(11));
        due(5, x.stop(0));
        due(3, x.many(11));
        due(4, x.stop(5));
        due(3, x.many(11));
        due(3, x.stop(3));
        due(4, x.many(11));
        // the turn was that of the last one in the ORDER: the first one's is next
        due(2, x.stop(4));
        due(1, x.many(11));
        due(0, x.cut(3));
        due(1, x.bottle(3, 1));
        due(2, x.bottle(4, 1));
        due(1, x.bottle(5, 1));
    }

    // Promise 17

    private static void start() {
        GobRow x = new GobRow();
        due(GobRow.NUMBER, x.start(6));
        due(GobRow.NUMBER, x.start(-1));
        due(GobRow.TWICE, x.start(0));
        due(6, x.many(9));
        due(5, x.stop(0));
        due(4, x.stop(3));
        due(5, x.start(3));
        due(6, x.start(0));
        due(GobRow.TWICE, x.start(3));
        due(1, x.many(11));
        due(0, x.cut(8));
        int[] order = {1, 2, 4, 5, 3, 0, 1, 2};
        for (int k = 0; k < 8; k++) {
            due(order[k], x.bottle(k, 1));
        }
        // the turn has gone round to the first one: the new last one waits
        due(0, x.cut(4));
        due(1, x.many(11));
        due(5, x.stop(0));
        due(6, x.start(0));
        due(1, x.many(11));
        for (int section = 0; section < 6; section++) {
            due(5 - section, x.stop(section));
        }
        due(1, x.start(5));
        due(5, x.many(11));
        due(2, x.start(2));
        due(5, x.many(11));
        due(2, x.cut(2));
        due(5, x.many(11));
        due(5, x.bottle(10, 1));
        due(2, x.bottle(11, 1));
    }

    // Promise 18

    private static void job() {
        GobRow x = new GobRow();
        due(1, x.aim(3, 510, 0));
        due(0, x.job(1, 3));
        due(0, x.cut(3));
        due(3, x.job(1, 2));
        due(2, x.job(1, 2));
        due(0, x.bottle(0, 3));
        due(3, x.bottle(1, 3));
        due(510, x.bottle(1, 4));
        due(0, x.job(0, 0));
        due(0, x.job(5, 1));
        int[][] wrong = {{-1, 0}, {6, 0}, {1, -1}, {1, 4}, {MIN, 0}, {1, MAX}};
        for (int[] w : wrong) {
            due(GobRow.NUMBER, x.job(w[0], w[1]));
        }
        due(2, x.job(1, 0));
    }

    // Promise 19

    private static void aim() {
        GobRow x = new GobRow();
        due(1, x.aim(0, 100, 0));
        due(0, x.cut(1));
        due(100, x.bottle(0, 4));
        due(0, x.bottle(0, 5));
        due(1, x.aim(0, 900, 3));
        due(0, x.cut(1));
        due(900, x.bottle(1, 4));
        due(2, x.bottle(1, 5));
        due(1, x.aim(0, 900, 3));
        int[][] wrong = {{-1, 500, 0}, {4, 500, 0}, {0, 99, 0}, {0, 901, 0}, {0, 500, -1}, {0, 500, 4},
            {MIN, 500, 0}, {0, MAX, 0}, {0, 500, MIN}};
        for (int[] w : wrong) {
            due(GobRow.NUMBER, x.aim(w[0], w[1], w[2]));
        }
        due(0, x.cut(1));
        due(900, x.bottle(2, 4));
        due(2, x.bottle(2, 5));
        // a bottle on THE BELT keeps the AIM of its CUT
        due(0, x.bottle(0, 5));
        due(1, x.aim(3, 500, 0));
        due(0, x.job(3, 3));
        due(0, x.cut(1));
        due(500, x.bottle(3, 4));
        due(0, x.bottle(3, 5));
    }

    // Promise 20

    private static void glass() {
        GobRow x = new GobRow();
        due(GobRow.TWICE, x.glass(0, 5));
        due(0, x.many(12));
        due(1, x.glass(3, 50));
        due(50, x.many(12));
        due(3, x.many(15));
        int[][] wrong = {{-1, 0}, {4, 0}, {1, -1}, {1, 51}, {3, 51}, {3, -1}, {MIN, 0}, {1, MAX}};
        for (int[] w : wrong) {
            due(GobRow.NUMBER, x.glass(w[0], w[1]));
        }
        due(GobRow.TWICE, x.glass(3, 0));
        due(50, x.many(12));
        due(3, x.many(15));
        due(0, x.cut(2));
        due(48, x.many(12));
        // in place of what was left
        due(1, x.glass(0, 2));
        due(2, x.many(12));
        due(0, x.cut(3));
        due(0, x.many(12));
        due(1, x.bottle(0, 5));
        due(1, x.bottle(2, 5));
        due(1, x.bottle(3, 5));
        due(0, x.bottle(4, 5));
        due(1, x.glass(1, 0));
        due(0, x.cut(1));
        due(2, x.bottle(5, 5));
        due(0, x.bottle(4, 5));
    }

    // Promise 21

    private static void mould() {
        GobRow x = new GobRow();
        due(GobRow.TWICE, x.mould(0, 0));
        due(GobRow.TWICE, x.mould(0, 5));
        due(0, x.mould(0, 29));
        due(0, x.book(29, 5));
        due(-1, x.book(0, 5));
        due(GobRow.TWICE, x.mould(1, 29));
        due(1, x.mould(1, 0));
        due(1, x.book(0, 5));
        int[][] wrong = {{-1, 9}, {6, 9}, {0, -1}, {0, 30}, {6, 0}, {MIN, 9}, {0, MAX}};
        for (int[] w : wrong) {
            due(GobRow.NUMBER, x.mould(w[0], w[1]));
        }
        due(0, x.book(29, 5));
        due(0, x.cut(2));
        due(29, x.bottle(0, 2));
        due(0, x.bottle(1, 2));
        due(1, x.book(29, 0));
        due(1, x.book(0, 0));
        due(0, x.book(1, 0));
        // a MOULD keeps its book, and a bottle its MOULD
        due(29, x.mould(0, 7));
        due(1, x.book(29, 0));
        due(29, x.bottle(0, 2));
    }

    // Promise 22

    private static void swab() {
        GobRow x = new GobRow();
        due(0, x.swab(0));
        due(10, x.cut(22));
        due(4, x.swab(0));
        due(0, x.swab(0));
        due(0, x.book(0, 1));
        due(4, x.book(0, 0));
        due(3, x.book(5, 1));
        due(6, x.cut(6));
        due(1, x.book(0, 1));
        due(5, x.book(0, 0));
        due(0, x.swab(29));
        due(1, x.pull(2, true));
        due(5, x.swab(2));
        due(1, x.book(2, 2));
        for (int wrong : new int[] {-1, 30, MIN, MAX}) {
            due(GobRow.NUMBER, x.swab(wrong));
        }
    }

    // Promise 23

    private static void repair() {
        GobRow x = new GobRow();
        due(12, x.cut(24));
        due(4, x.swab(3));
        due(6, x.cut(6));
        due(1, x.pull(3, true));
        due(3, x.book(3, 3));
        due(5, x.repair(3));
        due(0, x.book(3, 0));
        due(0, x.book(3, 1));
        due(0, x.book(3, 2));
        // what came off is not forgotten
        due(3, x.book(3, 3));
        due(0, x.repair(3));
        due(5, x.book(4, 0));
        due(5, x.book(4, 1));
        due(0, x.repair(29));
        for (int wrong : new int[] {-1, 30, MIN, MAX}) {
            due(GobRow.NUMBER, x.repair(wrong));
        }
    }

    // Promise 24

    private static void pull() {
        GobRow x = new GobRow();
        due(0, x.pull(4, false));
        due(1, x.pull(4, true));
        due(1, x.book(4, 2));
        due(0, x.book(3, 2));
        due(0, x.pull(4, true));
        due(1, x.book(4, 2));
        due(1, x.pull(4, false));
        due(0, x.pull(4, false));
        due(0, x.book(4, 2));
        due(1, x.pull(29, true));
        due(1, x.pull(0, true));
        for (int wrong : new int[] {-1, 30, MIN, MAX}) {
            due(GobRow.NUMBER, x.pull(wrong, true));
            due(GobRow.NUMBER, x.pull(wrong, false));
        }
        // a PULLED MOULD makes bottles on
        due(0, x.cut(1));
        due(0, x.bottle(0, 2));
        due(5, x.bottle(0, 5));
        due(1, x.pull(0, false));
        due(0, x.bottle(0, 5));
        due(1, x.pull(0, true));
        due(1, x.drain());
        due(1, x.many(7));
        due(1, x.pull(0, false));
        due(1, x.many(7));
        due(0, x.many(2));
    }

    // Promise 25

    private static void rule() {
        GobRow x = new GobRow();
        due(0, x.rule(0, -200));
        due(-200, x.rule(0, 200));
        due(200, x.rule(0, -1));
        due(200, x.rule(1, 1));
        due(1, x.rule(1, 1000));
        int[][] wrong = {{0, 201}, {0, -201}, {1, 0}, {1, 1001}, {1, -1}, {2, 5}, {-1, 5}, {0, MIN}, {1, MAX}, {MAX, 1}, {MIN, 1}};
        for (int[] w : wrong) {
            due(-1000, x.rule(w[0], w[1]));
        }
        due(-1, x.rule(0, 30));
        due(1000, x.rule(1, 2));
        due(0, x.cut(12));
        due(530, x.bottle(0, 4));
        due(6, x.cut(6));
        // USES above LASTS, both as they were then
        due(6, x.bottle(5, 5));
        due(4, x.bottle(6, 5));
        due(2, x.rule(1, 200));
        due(4, x.bottle(6, 5));
        due(30, x.rule(0, 0));
    }

    // Promise 26

    private static void book() {
        GobRow x = new GobRow();
        due(0, x.cut(7));
        due(2, x.book(0, 0));
        due(2, x.book(0, 1));
        due(0, x.book(0, 3));
        due(1, x.pull(1, true));
        due(7, x.drain());
        due(2, x.book(0, 3));
        due(0, x.book(0, 4));
        due(0, x.book(1, 3));
        due(1, x.book(1, 4));
        due(1, x.book(1, 2));
        due(1, x.book(1, 5));
        due(1, x.mould(1, 20));
        due(-1, x.book(1, 5));
        due(1, x.book(20, 5));
        due(1, x.book(1, 4));
        int[][] wrong = {{-1, 0}, {30, 0}, {0, -1}, {0, 6}, {MIN, 0}, {0, MAX}};
        for (int[] w : wrong) {
            due(GobRow.NUMBER, x.book(w[0], w[1]));
        }
    }

    // Promise 27

    private static void cut() {
        GobRow x = new GobRow();
        for (int wrong : new int[] {0, -1, 101, MIN, MAX}) {
            due(GobRow.NUMBER, x.cut(wrong));
        }
        due(0, x.many(0));
        due(0, x.cut(12));
        due(12, x.many(1));
        due(1, x.cut(1));
        due(13, x.many(0));
        due(12, x.many(1));
        due(1, x.many(2));
        due(1, x.bottle(0, 0));
        due(12, x.bottle(11, 0));
        due(100, x.cut(100));
        due(113, x.many(0));
        due(12, x.many(1));
        due(101, x.bottle(0, 0));
        due(5, x.many(11));
        due(19, x.book(0, 0));
        // 101 came off: of each MOULD 8 without too much DUST
        due(48, x.many(2));
        due(53, x.many(5));
        for (int section = 0; section < 6; section++) {
            due(5 - section, x.stop(section));
        }
        due(GobRow.NONE, x.cut(1));
        due(GobRow.NUMBER, x.cut(0));
        due(GobRow.NUMBER, x.cut(101));
        due(113, x.many(0));
        due(12, x.many(1));
    }

    private static void steering() {
        GobRow x = new GobRow();
        due(0, x.rule(0, 25));
        due(0, x.cut(12));
        due(500, x.many(10));
        // bottle 0 comes off ahead of CUT 12: TUBE is less by 25 / 2, cut towards 0
        due(1, x.cut(1));
        due(488, x.many(10));
        due(513, x.bottle(11, 4));
        // 1, 2 and 3 don't STEER; 4 does
        due(3, x.cut(3));
        due(488, x.many(10));
        due(1, x.cut(1));
        due(476, x.many(10));
        due(25, x.rule(0, -200));
        due(1, x.aim(0, 700, 0));
        due(12, x.drain());
        // 8 (at 525) and then 12 (at 513), 16 (at 501)
        due(476 - 12 - 6 + 0, x.many(10));
        due(0, x.cut(12));
        due(458 - 200 + 200, x.bottle(0, 4));
        due(12, x.drain());
        // 20, 24, 28 (17 is the first of these): each 700 less 458, by 2
        due(458 + 3 * 121, x.many(10));
        due(-200, x.rule(0, -200));
        due(1, x.aim(0, 900, 0));
        due(0, x.cut(12));
        due(1021, x.bottle(0, 4));
        due(12, x.drain());
        // 32, 36, 40: 900 less 1021 are -121, by 2 -60
        due(821 - 180, x.many(10));
        due(-200, x.rule(0, 200));
        due(0, x.cut(12));
        due(12, x.drain());
        // 641 and 200 are 841: off by -341, by 2 -170: three times, but not below 100
        due(641 - 510, x.many(10));
        due(0, x.cut(12));
        due(131 + 200 + 400, x.bottle(0, 4));
        due(200, x.rule(0, -200));
        due(12, x.drain());
        due(131 + 3 * 84, x.many(10));
        due(0, x.cut(12));
        due(12, x.drain());
        // 383 less 200: off by 317, by 2 158: three times
        due(383 + 3 * 158, x.many(10));
        due(-200, x.rule(0, 0));
        due(0, x.cut(12));
        due(0, x.rule(0, 200));
        due(12, x.drain());
        // 857 is 357 too much, by 2 178
        due(857 - 3 * 178, x.many(10));
        due(0, x.cut(12));
        due(12, x.drain());
        // 323 and 200 are 23 too much: 11 each
        due(323 - 33, x.many(10));
    }

    private static void tubeStaysBetween() {
        GobRow x = new GobRow();
        due(0, x.rule(0, -200));
        due(0, x.cut(12));
        due(12, x.drain());
        due(800, x.many(10));
        due(-200, x.rule(0, 200));
        due(0, x.cut(12));
        due(1000, x.bottle(11, 4));
        due(12, x.drain());
        // 800, 550, 300, and 50 would be next
        due(100, x.many(10));
        due(200, x.rule(0, -200));
        due(0, x.cut(12));
        due(-100, x.bottle(11, 4));
        due(12, x.drain());
        // 100, 400, 700, and 1000 would be next
        due(900, x.many(10));
    }

    // Promise 28

    private static void drain() {
        GobRow x = new GobRow();
        due(0, x.drain());
        due(0, x.rule(0, 100));
        due(1, x.pull(1, true));
        due(0, x.cut(5));
        due(5, x.drain());
        due(0, x.many(1));
        due(0, x.drain());
        // 0 and 4 STEER, by -50 each
        due(400, x.many(10));
        due(0, x.many(2));
        due(1, x.many(7));
        due(4, x.many(8));
        due(1, x.book(1, 4));
        due(GobRow.NUMBER, x.bottle(0, 0));
        due(5, x.many(0));
        due(5, x.many(11));
        due(100, x.rule(0, 200));
        due(1, x.cut(13));
        due(12, x.drain());
        due(18, x.many(0));
        // 8, 12 and 16 at 600
        due(250, x.many(10));
        // a drained BELT is filled anew
        due(0, x.cut(12));
        due(18, x.bottle(0, 0));
        due(29, x.bottle(11, 0));
        due(1, x.cut(1));
    }

    // Promise 29

    private static void bottle() {
        GobRow x = new GobRow();
        due(GobRow.NUMBER, x.bottle(0, 0));
        due(1, x.aim(2, 450, 0));
        due(0, x.job(3, 2));
        due(3, x.mould(3, 17));
        due(3, x.cut(15));
        due(3, x.bottle(0, 0));
        due(3, x.bottle(0, 1));
        due(17, x.bottle(0, 2));
        due(2, x.bottle(0, 3));
        due(450, x.bottle(0, 4));
        due(0, x.bottle(0, 5));
        due(14, x.bottle(11, 0));
        due(2, x.bottle(11, 1));
        due(9, x.bottle(6, 0));
        // what it was then stays
        due(2, x.job(3, 0));
        due(17, x.mould(3, 18));
        due(1, x.aim(2, 900, 1));
        due(17, x.bottle(0, 2));
        due(2, x.bottle(0, 3));
        due(450, x.bottle(0, 4));
        due(0, x.bottle(0, 5));
        int[][] wrong = {{-1, 0}, {12, 0}, {0, -1}, {0, 6}, {MIN, 0}, {0, MAX}, {MAX, 0}};
        for (int[] w : wrong) {
            due(GobRow.NUMBER, x.bottle(w[0], w[1]));
        }
        // a WEIGHT may be below 0
        GobRow y = new GobRow();
        due(0, y.rule(0, 200));
        due(76, y.cut(88));
        due(200, y.rule(0, -200));
        due(1, y.aim(0, 100, 0));
        due(1, y.cut(1));
        due(y.many(10) - 200 - 400, y.bottle(11, 4));
    }

    private static void bottleReasons() {
        GobRow x = new GobRow();
        // 6: more than 20 off
        due(0, x.rule(0, 20));
        due(0, x.cut(1));
        due(0, x.bottle(0, 5));
        due(20, x.rule(0, 21));
        due(0, x.cut(1));
        due(6, x.bottle(1, 5));
        due(21, x.rule(0, -20));
        due(0, x.cut(1));
        due(0, x.bottle(2, 5));
        due(-20, x.rule(0, -21));
        due(0, x.cut(1));
        due(6, x.bottle(3, 5));
        due(4, x.drain());
        due(2, x.many(2));
        due(2, x.many(8));
        // 3: the ninth since it was swabbed
        GobRow y = new GobRow();
        due(42, y.cut(54));
        due(0, y.bottle(5, 5));
        due(3, y.bottle(6, 5));
        due(9, y.swab(0));
        due(3, y.bottle(6, 5));
        due(1, y.cut(1));
        due(0, y.bottle(11, 5));
        due(12, y.drain());
        due(6, y.many(5));
        due(49, y.many(2));
        // 4: the one above LASTS
        GobRow z = new GobRow();
        due(200, z.rule(1, 1));
        due(0, z.cut(7));
        due(0, z.bottle(0, 5));
        due(4, z.bottle(6, 5));
        due(2, z.repair(0));
        due(4, z.bottle(6, 5));
        due(7, z.drain());
        due(1, z.many(6));
        due(6, z.many(2));
    }

    private static void bottleReasonsInOrder() {
        GobRow x = new GobRow();
        due(5, x.stop(1));
        due(4, x.stop(2));
        due(3, x.stop(3));
        due(2, x.stop(4));
        due(1, x.stop(5));
        due(0, x.rule(0, 200));
        due(0, x.cut(8));
        due(8, x.drain());
        due(300, x.many(10));
        due(200, x.rule(0, 100));
        due(200, x.rule(1, 1));
        due(1, x.pull(0, true));
        due(1, x.glass(1, 1));
        due(0, x.cut(2));
        due(1, x.glass(0, 0));
        due(0, x.cut(1));
        due(11, x.swab(0));
        due(0, x.cut(1));
        due(1, x.rule(1, 1000));
        due(0, x.cut(1));
        // all of 1 to 6 are so, then all but 1, and so on
        due(1, x.bottle(0, 5));
        due(2, x.bottle(1, 5));
        due(3, x.bottle(2, 5));
        due(4, x.bottle(3, 5));
        due(5, x.bottle(4, 5));
        due(1, x.pull(0, false));
        due(6, x.bottle(4, 5));
        due(4, x.bottle(3, 5));
        due(5, x.drain());
        int[] sums = {0, 1, 1, 1, 1, 0, 9};
        for (int k = 0; k < 7; k++) {
            due(sums[k], x.many(2 + k));
        }
        due(13, x.book(0, 4));
        due(0, x.book(0, 3));
    }

    // Promise 30

    private static void many() {
        GobRow x = new GobRow();
        due(1, x.glass(2, 3));
        due(1, x.aim(0, 500, 2));
        due(0, x.law(1, 0, 1, 0));
        due(1, x.law(1, 1, 2, 0));
        due(10, x.pace(30));
        due(5, x.stop(0));
        due(1, x.pull(5, true));
        due(1, x.cut(13));
        int[] counts = {13, 12, 0, 1, 0, 0, 0, 0, 0, 5, 500, 4, 0, 2, 30, 2};
        for (int what = 0; what < 16; what++) {
            due(counts[what], x.many(what));
        }
        due(12, x.drain());
        int[] later = {13, 0, 8, 3, 0, 0, 0, 2, 0, 5, 500, 4, 0, 2, 30, 2};
        for (int what = 0; what < 16; what++) {
            due(later[what], x.many(what));
        }
        for (int wrong : new int[] {-1, 16, MIN, MAX}) {
            due(-1, x.many(wrong));
        }
    }
}
