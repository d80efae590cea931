/** The boundaries that the document names for ARMS and KNOTS: promises 11 to 15 and their Terms. */
public final class ArmEdgesTest {
    public static void main(String[] args) {
        Edges.run(ArmEdgesTest.class, 11, 15);
    }

    private static void due(int want, int got) {
        Edges.due(want, got);
    }

    /** Tells KNOTS: DEGREE, PLACE, DEGREE, PLACE and so on. */
    private static void tell(GobRow x, int... knots) {
        for (int k = 0; k < knots.length; k += 2) {
            due(k / 2 + 1, x.knot(knots[k], knots[k + 1]));
        }
    }

    /** Lets an ARM have these KNOTS. */
    private static void move(GobRow x, int arm, int... knots) {
        tell(x, knots);
        due(knots.length / 2, x.arm(arm));
    }

    /** These KNOTS would bring an ARM too near; nothing is told then. */
    private static void tooNear(GobRow x, int arm, int... knots) {
        tell(x, knots);
        due(GobRow.NEAR, x.arm(arm));
        due(knots.length / 2, x.forget());
    }

    private static void at(GobRow x, int arm, int degree, int above, int below) {
        due(above, x.place(arm, degree, 0));
        due(below, x.place(arm, degree, 1));
    }

    // ---- Terms

    @Edge(promise = 0, words = "DEGREES are 0 to 359, in a ring.")
    static void degreesOfArms() {
        Edges.range(0, 359, (x, v) -> x.place(1, v, 0));
        Edges.range(0, 359, (x, v) -> x.knot(v, 0));
    }

    @Edge(promise = 0, words = "ARMS 0 to 2 go along one rail")
    static void arms() {
        Edges.range(0, 2, (x, v) -> x.arm(v));
        Edges.range(0, 2, (x, v) -> x.place(v, 0, 0));
        Edges.range(0, 1, (x, v) -> x.nearest(v, 2));
        Edges.range(1, 2, (x, v) -> x.nearest(0, v));
    }

    @Edge(promise = 0, words = "each has KNOTS, 1 to 6, at rising DEGREES, with a PLACE (0 to 1000) each")
    static void fewestAndMostKnots() {
        Edges.range(0, 1000, (x, v) -> x.knot(0, v));
        GobRow x = new GobRow();
        due(GobRow.NONE, x.arm(0));
        move(x, 0, 359, 0);
        at(x, 0, 0, 0, 1);
        move(x, 0, 0, 1, 1, 2, 2, 3, 3, 4, 358, 5, 359, 6);
        at(x, 0, 0, 1, 1);
        at(x, 0, 3, 4, 1);
        at(x, 0, 358, 5, 1);
        at(x, 0, 359, 6, 1);
        move(x, 2, 0, 1000);
        at(x, 2, 359, 1000, 1);
    }

    @Edge(promise = 0, words = "(at first one: DEGREE 0, PLACE 300 times the ARM)")
    static void armsAtFirst() {
        GobRow x = new GobRow();
        for (int arm = 0; arm < 3; arm++) {
            for (int degree : new int[] {0, 1, 180, 359}) {
                at(x, arm, degree, 300 * arm, 1);
            }
        }
    }

    @Edge(promise = 0, words = "of the last KNOT ahead and the next one behind it in the ring (which are the same if there is one)")
    static void placeOfTheOnlyKnot() {
        for (int degree : new int[] {0, 1, 180, 359}) {
            GobRow x = new GobRow();
            move(x, 0, degree, 7);
            for (int looked = 0; looked < 360; looked++) {
                due(7, x.place(0, looked, 0));
            }
            due(1, x.place(0, 0, 1));
            due(1, x.place(0, 359, 1));
        }
    }

    @Edge(promise = 0, words = "Its PLACE at a DEGREE: that of the KNOT there; else, of the last KNOT ahead and the next one behind it in the ring")
    static void placeOnTheLineThroughZero() {
        GobRow x = new GobRow();
        move(x, 0, 10, 200, 350, 0);
        at(x, 0, 350, 0, 1);
        at(x, 0, 351, 10, 1);
        at(x, 0, 359, 90, 1);
        at(x, 0, 0, 100, 1);
        at(x, 0, 1, 110, 1);
        at(x, 0, 9, 190, 1);
        at(x, 0, 10, 200, 1);
        // down by 200 in 340 DEGREES
        at(x, 0, 11, 3390, 17);
        at(x, 0, 349, 10, 17);
    }

    @Edge(promise = 0, words = "what lies on the straight line between these: a fraction")
    static void placeOnTheLongestLines() {
        GobRow x = new GobRow();
        // 359 DEGREES up, and one back
        move(x, 0, 0, 0, 359, 200);
        at(x, 0, 0, 0, 1);
        at(x, 0, 1, 200, 359);
        at(x, 0, 358, 71600, 359);
        at(x, 0, 359, 200, 1);
        // one DEGREE up, and 359 back, through 0
        move(x, 0, 1, 10, 2, 20);
        at(x, 0, 1, 10, 1);
        at(x, 0, 2, 20, 1);
        at(x, 0, 3, 7170, 359);
        at(x, 0, 359, 3610, 359);
        at(x, 0, 0, 3600, 359);
        // KNOTS at both ends of the ring: from 359 to 0 there is one DEGREE, with none between
        move(x, 2, 0, 1000, 1, 999, 359, 998);
        at(x, 2, 0, 1000, 1);
        at(x, 2, 2, 357641, 358);
        at(x, 2, 358, 357285, 358);
        at(x, 2, 359, 998, 1);
    }

    @Edge(promise = 0, words = "CLEAR at a DEGREE if the PLACE of i and 50 more is not above that of j")
    static void clearByFifty() {
        GobRow x = new GobRow();
        tooNear(x, 0, 0, 251);
        move(x, 0, 0, 250);
        tooNear(x, 1, 0, 299);
        move(x, 1, 0, 300);
        move(x, 0, 0, 0);
        tooNear(x, 1, 0, 49);
        tooNear(x, 1, 0, 551);
        move(x, 1, 0, 50);
        move(x, 1, 0, 550);
        tooNear(x, 2, 0, 599);
        move(x, 2, 0, 600);
        move(x, 1, 0, 300);
        tooNear(x, 2, 0, 349);
        move(x, 2, 0, 350);
        // all as near as may be, at both ends of the rail
        move(x, 1, 0, 50);
        move(x, 2, 0, 100);
        tooNear(x, 0, 0, 1);
        move(x, 2, 0, 1000);
        move(x, 1, 0, 950);
        move(x, 0, 0, 900);
        tooNear(x, 0, 0, 901);
        tooNear(x, 1, 0, 951);
        tooNear(x, 1, 0, 949);
        tooNear(x, 2, 0, 999);
    }

    @Edge(promise = 0, words = "the PLACE of i and 50 more is not above that of j")
    static void clearByAFraction() {
        GobRow x = new GobRow();
        move(x, 0, 0, 0, 359, 1);
        // at DEGREE 1 ARM 0 is at 1 / 359: 50 is too near by just that
        tooNear(x, 1, 0, 50, 1, 50, 2, 300, 359, 300);
        move(x, 1, 0, 50, 1, 51, 2, 300, 359, 300);
        // side by side, by exactly 50, neither at a whole number
        move(x, 1, 0, 300);
        move(x, 0, 0, 0, 7, 100);
        tooNear(x, 1, 0, 50, 7, 149);
        tooNear(x, 1, 0, 49, 7, 150);
        move(x, 1, 0, 50, 7, 150);
        // lines of 6 and of 3 DEGREES: exactly 50 at DEGREE 3
        move(x, 1, 0, 300);
        move(x, 0, 0, 0, 6, 90);
        tooNear(x, 1, 0, 100, 3, 94, 4, 300);
        move(x, 1, 0, 100, 3, 95, 4, 300);
        // and ARM 2 over ARM 1, which is at 95 and 205 / 2 more at DEGREE 3 then
        move(x, 1, 2, 95, 4, 300);
        tooNear(x, 2, 0, 600, 3, 247, 4, 600);
        move(x, 2, 0, 600, 3, 248, 4, 600);
    }

    @Edge(promise = 0, words = "All three are CLEAR at all DEGREES, always.")
    static void clearAtTheLastAndTheFirstDegree() {
        for (int degree : new int[] {1, 180, 358}) {
            GobRow x = new GobRow();
            tooNear(x, 0, degree - 1, 0, degree, 251, degree + 1, 0);
            move(x, 0, degree - 1, 0, degree, 250, degree + 1, 0);
            due(degree, x.nearest(0, 1));
        }
        GobRow x = new GobRow();
        tooNear(x, 0, 0, 251, 1, 0, 359, 0);
        move(x, 0, 0, 250, 1, 0, 359, 0);
        tooNear(x, 0, 0, 0, 358, 0, 359, 251);
        move(x, 0, 0, 0, 358, 0, 359, 250);
    }

    @Edge(promise = 0, words = "All three are CLEAR at all DEGREES, always.")
    static void clearOnTheLineThroughZero() {
        GobRow x = new GobRow();
        // ARM 0 is at 240 from 350 through 0 to 10, without a KNOT at 0
        move(x, 0, 10, 240, 180, 0, 350, 240);
        tooNear(x, 1, 0, 289, 5, 300, 355, 300);
        move(x, 1, 0, 290, 5, 300, 355, 300);
        // it is the new KNOTS that count, on either ARM
        tooNear(x, 0, 10, 241, 180, 0, 350, 240);
        move(x, 0, 10, 240, 180, 0, 350, 239);
    }

    @Edge(promise = 0, words = "All three are CLEAR at all DEGREES, always.")
    static void clearAtTheFirstAndTheLastOfSixKnots() {
        GobRow x = new GobRow();
        // no other KNOT of either ARM is where they are too near
        tooNear(x, 0, 10, 251, 11, 0);
        move(x, 0, 10, 250, 11, 0);
        tooNear(x, 0, 10, 0, 20, 0, 30, 0, 40, 0, 50, 0, 60, 251);
        move(x, 0, 10, 0, 20, 0, 30, 0, 40, 0, 50, 0, 60, 250);
        move(x, 0, 0, 0);
        tooNear(x, 1, 10, 49, 11, 300);
        move(x, 1, 10, 50, 11, 300);
        tooNear(x, 1, 10, 300, 20, 300, 30, 300, 40, 300, 50, 300, 60, 551);
        move(x, 1, 10, 300, 20, 300, 30, 300, 40, 300, 50, 300, 60, 550);
    }

    // ---- promise 11

    @Edge(promise = 11, words = "NUMBER: there is no such ARM; NONE: none was told; NEAR.")
    static void armRefusalsInTheirOrder() {
        GobRow x = new GobRow();
        due(GobRow.NUMBER, x.arm(3));
        due(GobRow.NUMBER, x.arm(-1));
        for (int arm = 0; arm < 3; arm++) {
            due(GobRow.NONE, x.arm(arm));
        }
        // these would be too near on ARMS 0 and 2
        due(1, x.knot(0, 300));
        due(GobRow.NUMBER, x.arm(3));
        due(GobRow.NUMBER, x.arm(-1));
        due(GobRow.NEAR, x.arm(0));
        due(GobRow.NEAR, x.arm(2));
        due(1, x.arm(1));
        due(GobRow.NONE, x.arm(1));
        due(GobRow.NONE, x.arm(0));
    }

    @Edge(promise = 11, words = "The KNOTS of an ARM become what was told by knot() (which are none then): how many.")
    static void toldIsNoneThen() {
        GobRow x = new GobRow();
        move(x, 1, 0, 300, 1, 301, 2, 302, 3, 303, 4, 304, 5, 305);
        due(0, x.forget());
        due(GobRow.NONE, x.arm(1));
        due(305, x.place(1, 5, 0));
        // from fewer KNOTS nothing of the six is left
        move(x, 1, 359, 310);
        due(0, x.forget());
        for (int degree : new int[] {0, 1, 2, 3, 4, 5, 6, 358, 359}) {
            at(x, 1, degree, 310, 1);
        }
        // the same told twice, for two ARMS
        move(x, 0, 0, 10, 100, 20);
        move(x, 0, 0, 10, 100, 20);
        at(x, 0, 50, 15, 1);
    }

    @Edge(promise = 11, words = "NEAR")
    static void whatWasNearIsToldStill() {
        GobRow x = new GobRow();
        tell(x, 0, 0, 10, 0, 20, 0, 30, 0, 40, 0, 359, 251);
        due(GobRow.NEAR, x.arm(0));
        at(x, 0, 359, 0, 1);
        due(GobRow.NEAR, x.arm(1));
        at(x, 1, 359, 300, 1);
        due(GobRow.NEAR, x.arm(2));
        at(x, 2, 359, 600, 1);
        due(GobRow.NUMBER, x.knot(359, 0));
        due(6, x.forget());
        // five of them, the sixth being told anew
        tell(x, 0, 0, 10, 0, 20, 0, 30, 0, 40, 251);
        due(GobRow.NEAR, x.arm(0));
        due(6, x.knot(41, 0));
        due(GobRow.NEAR, x.arm(0));
        due(GobRow.FULL, x.knot(42, 0));
        due(6, x.forget());
    }

    // ---- promise 12

    @Edge(promise = 12, words = "NUMBER: degree is none, place isn't 0 to 1000")
    static void knotNumbers() {
        GobRow x = new GobRow();
        due(GobRow.NUMBER, x.knot(-1, 500));
        due(GobRow.NUMBER, x.knot(360, 500));
        due(GobRow.NUMBER, x.knot(0, -1));
        due(GobRow.NUMBER, x.knot(0, 1001));
        due(GobRow.NUMBER, x.knot(-1, -1));
        due(GobRow.NUMBER, x.knot(360, 1001));
        due(0, x.forget());
        due(1, x.knot(0, 0));
        due(2, x.knot(359, 1000));
        due(GobRow.NUMBER, x.knot(360, 1000));
        due(2, x.forget());
    }

    @Edge(promise = 12, words = "or the DEGREE isn't above that told latest")
    static void knotsRise() {
        GobRow x = new GobRow();
        due(1, x.knot(0, 5));
        due(GobRow.NUMBER, x.knot(0, 5));
        due(2, x.knot(1, 5));
        due(GobRow.NUMBER, x.knot(1, 6));
        due(GobRow.NUMBER, x.knot(0, 6));
        due(3, x.knot(358, 5));
        due(GobRow.NUMBER, x.knot(357, 6));
        due(GobRow.NUMBER, x.knot(358, 6));
        due(4, x.knot(359, 5));
        due(GobRow.NUMBER, x.knot(359, 6));
        due(GobRow.NUMBER, x.knot(0, 6));
        due(4, x.forget());
        // none is told: any DEGREE is above
        due(1, x.knot(0, 5));
        due(1, x.arm(0));
        due(1, x.knot(0, 5));
        due(1, x.forget());
        due(1, x.knot(359, 5));
        due(1, x.arm(0));
        due(1, x.knot(0, 5));
    }

    @Edge(promise = 12, words = "FULL: 6 are.")
    static void sixKnotsAreFull() {
        GobRow x = new GobRow();
        tell(x, 0, 0, 1, 1, 2, 2, 3, 3, 4, 4, 357, 5);
        due(GobRow.FULL, x.knot(358, 6));
        due(GobRow.FULL, x.knot(359, 1000));
        // NUMBER is named ahead of it
        due(GobRow.NUMBER, x.knot(357, 6));
        due(GobRow.NUMBER, x.knot(0, 6));
        due(GobRow.NUMBER, x.knot(360, 6));
        due(GobRow.NUMBER, x.knot(-1, 6));
        due(GobRow.NUMBER, x.knot(358, 1001));
        due(GobRow.NUMBER, x.knot(358, -1));
        due(GobRow.FULL, x.knot(358, 0));
        due(6, x.arm(0));
        due(5, x.place(0, 357, 0));
        due(1, x.knot(0, 6));
    }

    // ---- promise 13

    @Edge(promise = 13, words = "Nothing is told by knot(): how many were.")
    static void forgetNoneAndSix() {
        GobRow x = new GobRow();
        due(0, x.forget());
        for (int count = 1; count <= 6; count++) {
            for (int k = 1; k <= count; k++) {
                due(k, x.knot(k, 0));
            }
            due(count, x.forget());
            due(0, x.forget());
            due(GobRow.NONE, x.arm(0));
        }
        tell(x, 0, 0, 1, 1, 2, 2, 3, 3, 4, 4, 5, 5);
        due(GobRow.FULL, x.knot(6, 6));
        due(6, x.forget());
        due(1, x.knot(0, 6));
    }

    // ---- promise 14

    @Edge(promise = 14, words = "what = 0 above, 1 below the line, cleared (0 / 1 if it is 0)")
    static void placeIsCleared() {
        GobRow x = new GobRow();
        at(x, 0, 0, 0, 1);
        at(x, 0, 359, 0, 1);
        move(x, 0, 0, 0, 4, 6, 100, 0);
        at(x, 0, 0, 0, 1);
        at(x, 0, 1, 3, 2);
        at(x, 0, 2, 3, 1);
        at(x, 0, 3, 9, 2);
        at(x, 0, 4, 6, 1);
        at(x, 0, 5, 95, 16);
        at(x, 0, 36, 4, 1);
        at(x, 0, 99, 1, 16);
        // level at 0, between two KNOTS
        at(x, 0, 100, 0, 1);
        at(x, 0, 101, 0, 1);
        at(x, 0, 359, 0, 1);
        move(x, 2, 0, 1000, 359, 999);
        at(x, 2, 1, 358999, 359);
        at(x, 2, 0, 1000, 1);
    }

    @Edge(promise = 14, words = "NUMBER: there is no such ARM, DEGREE, another what.")
    static void placeWhat() {
        Edges.range(0, 1, (x, v) -> x.place(1, 0, v));
        GobRow x = new GobRow();
        due(GobRow.NUMBER, x.place(3, 360, 2));
        due(GobRow.NUMBER, x.place(2, 360, 1));
        due(GobRow.NUMBER, x.place(3, 359, 1));
        due(GobRow.NUMBER, x.place(2, 359, 2));
        due(600, x.place(2, 359, 0));
        due(1, x.place(2, 359, 1));
    }

    // ---- promise 15

    @Edge(promise = 15, words = "The first DEGREE at which ARMS i < j are nearest (the PLACE of j less that of i is least).")
    static void nearestIsTheFirstOfSeveral() {
        GobRow x = new GobRow();
        due(0, x.nearest(0, 1));
        due(0, x.nearest(0, 2));
        due(0, x.nearest(1, 2));
        move(x, 0, 0, 0, 100, 200, 150, 0, 200, 200);
        due(100, x.nearest(0, 1));
        due(100, x.nearest(0, 2));
        move(x, 0, 0, 0, 100, 200, 150, 0, 200, 201);
        due(200, x.nearest(0, 1));
        // both ends of the ring
        move(x, 0, 0, 200, 180, 0, 359, 200);
        due(0, x.nearest(0, 1));
        move(x, 0, 0, 199, 180, 0, 359, 200);
        due(359, x.nearest(0, 1));
        move(x, 0, 0, 199, 1, 200, 359, 200);
        due(1, x.nearest(0, 1));
    }

    @Edge(promise = 15, words = "The first DEGREE at which ARMS i < j are nearest")
    static void nearestThroughZero() {
        GobRow x = new GobRow();
        // level from 359 through 0 to 1, without a KNOT at 0
        move(x, 0, 1, 200, 180, 0, 359, 200);
        due(0, x.nearest(0, 1));
        move(x, 0, 1, 200, 180, 0, 359, 199);
        due(1, x.nearest(0, 1));
        move(x, 0, 1, 199, 180, 0, 359, 200);
        due(359, x.nearest(0, 1));
        // level between two ARMS that both go up through 0
        move(x, 0, 10, 100, 180, 0, 350, 0);
        move(x, 1, 10, 200, 180, 500, 350, 100);
        due(0, x.nearest(0, 1));
        move(x, 1, 10, 201, 180, 500, 350, 100);
        due(350, x.nearest(0, 1));
        move(x, 1, 10, 200, 180, 500, 350, 101);
        due(10, x.nearest(0, 1));
    }

    @Edge(promise = 15, words = "The first DEGREE at which ARMS i < j are nearest")
    static void nearestAtTheFirstAndTheLastOfSixKnots() {
        GobRow x = new GobRow();
        move(x, 0, 10, 9, 20, 0, 30, 0, 40, 0, 50, 0, 60, 8);
        move(x, 1, 15, 300, 25, 300, 35, 300, 45, 300, 55, 300, 65, 300);
        due(10, x.nearest(0, 1));
        move(x, 0, 10, 8, 20, 0, 30, 0, 40, 0, 50, 0, 60, 9);
        due(60, x.nearest(0, 1));
        move(x, 0, 10, 0, 20, 0, 30, 0, 40, 0, 50, 0, 60, 0);
        due(0, x.nearest(0, 1));
        move(x, 1, 15, 299, 25, 301, 35, 301, 45, 301, 55, 301, 65, 300);
        due(15, x.nearest(0, 1));
        move(x, 1, 15, 300, 25, 301, 35, 301, 45, 301, 55, 301, 65, 299);
        due(65, x.nearest(0, 1));
        due(25, x.nearest(1, 2));
        // fewer KNOTS then: none of the six is left
        move(x, 1, 100, 300);
        due(0, x.nearest(0, 1));
    }

    @Edge(promise = 15, words = "The first DEGREE at which ARMS i < j are nearest")
    static void nearestOnceByOneArmAndOnceByTheOther() {
        GobRow x = new GobRow();
        move(x, 0, 40, 0, 50, 10, 60, 0);
        move(x, 1, 10, 300, 20, 290, 30, 300);
        due(20, x.nearest(0, 1));
        move(x, 0, 10, 0, 20, 10, 30, 0);
        move(x, 1, 40, 300, 50, 290, 60, 300);
        due(20, x.nearest(0, 1));
        move(x, 1, 40, 300, 50, 289, 60, 300);
        due(50, x.nearest(0, 1));
    }

    @Edge(promise = 15, words = "(the PLACE of j less that of i is least)")
    static void nearestByAFraction() {
        GobRow x = new GobRow();
        // ARM 0 is at 100 / 3 at DEGREE 1 and at 200 / 6 at DEGREE 7
        move(x, 0, 0, 0, 3, 100, 9, 0);
        move(x, 1, 0, 400, 1, 133, 2, 400, 6, 400, 7, 133, 8, 400);
        due(1, x.nearest(0, 1));
        move(x, 1, 0, 400, 1, 134, 2, 400, 6, 400, 7, 133, 8, 400);
        due(7, x.nearest(0, 1));
        // at DEGREE 8 it is at 100 / 6: nearer by 1 / 3 at 17 less, not by 2 / 3 at 16 less
        move(x, 1, 0, 400, 1, 133, 2, 400, 7, 400, 8, 116, 9, 400);
        due(8, x.nearest(0, 1));
        move(x, 1, 0, 400, 1, 133, 2, 400, 7, 400, 8, 117, 9, 400);
        due(1, x.nearest(0, 1));
    }

    @Edge(promise = 15, words = "NUMBER: there are no such ARMS, or i isn't below j.")
    static void nearestNumbers() {
        GobRow x = new GobRow();
        for (int i = -1; i <= 3; i++) {
            for (int j = -1; j <= 3; j++) {
                boolean isPair = i >= 0 && j <= 2 && i < j;
                due(isPair ? 0 : GobRow.NUMBER, x.nearest(i, j));
            }
        }
        due(GobRow.NUMBER, x.nearest(Integer.MIN_VALUE, 1));
        due(GobRow.NUMBER, x.nearest(1, Integer.MAX_VALUE));
    }
}
