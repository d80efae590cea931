/** The boundaries that the document names for DRUMS, LAWS and PACE: promises 2 to 10 and their Terms. */
public final class DrumEdgesTest {
    public static void main(String[] args) {
        Edges.run(DrumEdgesTest.class, 2, 10);
    }

    private static void due(int want, int got) {
        Edges.due(want, got);
    }

    /** A new object with an ACT set so in every DRUM. */
    private static GobRow withAct(int act, int on, int off) {
        GobRow x = new GobRow();
        setAll(x, act, on, off);
        return x;
    }

    private static void setAll(GobRow x, int act, int on, int off) {
        for (int section = 0; section < 6; section++) {
            due(1, x.set(section, act, on, off));
        }
    }

    /** LAWS that none can break, up to so many. */
    private static void fillLaws(GobRow x, int count) {
        for (int k = x.many(13); k < count; k++) {
            due(k, x.law(2, k % 8, 0, 0));
        }
    }

    // ---- Terms

    @Edge(promise = 0, words = "DEGREES are 0 to 359, in a ring.")
    static void degreesOfDrums() {
        Edges.range(0, 359, (x, v) -> x.set(0, 0, v, 100));
        Edges.range(0, 359, (x, v) -> x.set(0, 0, 100, v));
        Edges.range(0, 359, (x, v) -> x.would(0, 0, v, 100));
        Edges.range(0, 359, (x, v) -> x.would(0, 0, 100, v));
        Edges.range(0, 359, (x, v) -> x.act(0, 0, 3, v));
    }

    @Edge(promise = 0, words = "SECTIONS are 0 to 5; each has a DRUM")
    static void sectionsOfDrums() {
        Edges.range(0, 5, (x, v) -> x.set(v, 0, 0, 1));
        Edges.range(0, 5, (x, v) -> x.turn(v, 1));
        Edges.range(0, 5, (x, v) -> x.copy(v, 3));
        Edges.range(0, 5, (x, v) -> x.copy(3, v));
        Edges.range(0, 5, (x, v) -> x.act(v, 0, 0, 0));
        Edges.range(0, 5, (x, v) -> x.would(v, 0, 0, 1));
    }

    @Edge(promise = 0, words = "ACTS 0 to 7")
    static void acts() {
        Edges.range(0, 7, (x, v) -> x.set(0, v, 0, 1));
        Edges.range(0, 7, (x, v) -> x.act(0, v, 0, 0));
        Edges.range(0, 7, (x, v) -> x.would(0, v, 0, 1));
        for (int k = 0; k < 4; k++) {
            int kind = k;
            Edges.range(0, 7, (x, v) -> x.law(kind, v, 3, 0));
            Edges.range(0, 7, (x, v) -> x.law(kind, 3, v, 0));
        }
    }

    @Edge(promise = 0, words = "each ON at a DEGREE and OFF at another one")
    static void onAndOffAreNotTheSame() {
        GobRow x = new GobRow();
        for (int degree : new int[] {0, 1, 180, 358, 359}) {
            due(GobRow.NUMBER, x.set(2, 4, degree, degree));
            due(GobRow.NUMBER, x.would(2, 4, degree, degree));
        }
        due(160, x.act(2, 4, 0, 0));
        due(1, x.set(2, 4, 180, 181));
        due(1, x.act(2, 4, 2, 0));
        due(1, x.set(2, 4, 180, 179));
        due(359, x.act(2, 4, 2, 0));
    }

    @Edge(promise = 0, words = "it is done at the DEGREES from ON on up to the one ahead of OFF (through 0, if OFF is below ON)")
    static void doneThroughZero() {
        int[][] acts = {{0, 1}, {0, 359}, {1, 0}, {359, 0}, {359, 1}, {358, 359}, {359, 358}, {180, 179}, {350, 10}, {10, 350}};
        for (int[] act : acts) {
            GobRow x = new GobRow();
            due(1, x.set(5, 7, act[0], act[1]));
            boolean isThroughZero = act[1] < act[0];
            int count = 0;
            for (int degree = 0; degree < 360; degree++) {
                boolean isBehindOn = degree >= act[0];
                boolean isAheadOfOff = degree < act[1];
                boolean isDone = isThroughZero ? isBehindOn || isAheadOfOff : isBehindOn && isAheadOfOff;
                due(isDone ? 1 : 0, x.act(5, 7, 3, degree));
                count += isDone ? 1 : 0;
            }
            due(count, x.act(5, 7, 2, 0));
        }
    }

    @Edge(promise = 0, words = "At first ACT k is ON at 40 k and OFF at 40 k + 20.")
    static void firstAndLastActAtFirst() {
        GobRow x = new GobRow();
        for (int section = 0; section < 6; section++) {
            due(0, x.act(section, 0, 0, 0));
            due(20, x.act(section, 0, 1, 0));
            due(0, x.act(section, 0, 3, 359));
            due(1, x.act(section, 0, 3, 0));
            due(1, x.act(section, 0, 3, 19));
            due(0, x.act(section, 0, 3, 20));
            due(280, x.act(section, 7, 0, 0));
            due(300, x.act(section, 7, 1, 0));
            due(0, x.act(section, 7, 3, 279));
            due(1, x.act(section, 7, 3, 280));
            due(1, x.act(section, 7, 3, 299));
            due(0, x.act(section, 7, 3, 300));
        }
    }

    @Edge(promise = 0, words = "PACE (1 to 60; 10 at first)")
    static void paces() {
        Edges.range(1, 60, (x, v) -> x.pace(v));
        due(10, new GobRow().many(14));
    }

    @Edge(promise = 0, words = "LAWS are numbered from 0 as they come, 16 at most")
    static void sixteenLaws() {
        GobRow x = new GobRow();
        due(0, x.many(13));
        for (int k = 0; k < 15; k++) {
            due(k, x.law(1, 0, 1, 0));
        }
        due(15, x.law(1, 0, 1, 0));
        due(16, x.many(13));
        due(GobRow.FULL, x.law(1, 0, 1, 0));
        due(16, x.many(13));
    }

    @Edge(promise = 0, words = "at least n DEGREES (0 to 359; how many must be gone up from OFF to ON, 0 to 359)")
    static void aheadAtEachDistance() {
        for (int way : new int[] {0, 1, 39, 40, 41, 180, 358, 359}) {
            int off = (40 - way + 360) % 360;
            int on = (off + 180) % 360;
            GobRow x = withAct(0, on, off);
            due(way == 359 ? GobRow.NUMBER : GobRow.LAW, x.law(0, 0, 1, way + 1));
            due(0, x.law(0, 0, 1, way));
            due(way == 0 ? GobRow.NUMBER : 1, x.law(0, 0, 1, way - 1));
            // OFF a DEGREE later: one less to go up, but from none it is all the ring but one
            due(way == 0 ? 0 : 1, x.would(3, 0, on, (off + 1) % 360));
            // OFF a DEGREE earlier: one more, but from all but one it is none
            due(way == 359 ? 1 : 0, x.would(3, 0, on, (off + 359) % 360));
        }
    }

    @Edge(promise = 0, words = "kind 0 (AHEAD): from OFF of ACT a on to ON of ACT b")
    static void aheadLooksAtOffAndOnAlone() {
        GobRow x = new GobRow();
        due(0, x.law(0, 7, 0, 60));
        // through 0, from OFF of 7 at 300 to ON of 0 at 0; ON of 7 and OFF of 0 may be anywhere
        due(0, x.would(1, 7, 301, 300));
        due(0, x.would(1, 7, 299, 300));
        due(0, x.would(1, 0, 0, 359));
        due(0, x.would(1, 0, 0, 1));
        due(1, x.would(1, 7, 280, 301));
        due(1, x.would(1, 0, 359, 20));
        due(0, x.would(1, 0, 299, 20));
        due(1, x.would(1, 0, 300, 20));
    }

    @Edge(promise = 0, words = "1 (APART): ACTS a and b are done at no DEGREE both")
    static void apartTouching() {
        for (int first = 0; first < 2; first++) {
            GobRow x = new GobRow();
            due(0, x.law(1, first, 1 - first, 0));
            // ACT 1 is done from 40 to 59
            due(0, x.would(0, 0, 20, 40));
            due(1, x.would(0, 0, 20, 41));
            due(0, x.would(0, 0, 60, 80));
            due(1, x.would(0, 0, 59, 80));
            due(0, x.would(0, 0, 60, 40));
            due(1, x.would(0, 0, 60, 41));
            due(1, x.would(0, 0, 59, 40));
            due(1, x.would(0, 0, 40, 60));
            due(1, x.would(0, 0, 49, 50));
            due(1, x.would(0, 0, 30, 70));
            due(1, x.would(0, 0, 70, 50));
        }
    }

    @Edge(promise = 0, words = "ACTS a and b are done at no DEGREE both")
    static void apartThroughZero() {
        for (int first = 0; first < 2; first++) {
            GobRow x = withAct(0, 100, 110);
            due(1, x.set(0, 1, 350, 10));
            due(0, x.law(1, first, 1 - first, 0));
            due(0, x.would(0, 0, 10, 350));
            due(1, x.would(0, 0, 9, 350));
            due(1, x.would(0, 0, 10, 351));
            due(1, x.would(0, 0, 0, 1));
            due(1, x.would(0, 0, 359, 0));
            due(1, x.would(0, 0, 340, 20));
            due(1, x.would(0, 0, 355, 5));
            due(0, x.would(0, 0, 349, 350));
            due(1, x.would(0, 0, 350, 351));
            due(1, x.would(0, 0, 9, 10));
            due(0, x.would(0, 0, 10, 11));
        }
    }

    @Edge(promise = 0, words = "so many DEGREES times 500 are not below 3 times PACE times n")
    static void longEnough() {
        // DEGREES, PACE, and the most milliseconds that they last
        int[][] edges = {{1, 1, 166}, {1, 60, 2}, {60, 10, 1000}, {36, 60, 100}, {359, 1, 59833}, {359, 60, 997}, {6, 1, 1000}};
        for (int[] edge : edges) {
            int off = (350 + edge[0]) % 360;
            GobRow x = withAct(4, 350, off);
            due(10, x.pace(edge[1]));
            due(GobRow.LAW, x.law(2, 4, 4, edge[2] + 1));
            due(0, x.law(2, 4, 4, edge[2]));
            due(0, x.would(0, 4, 350, off));
        }
        GobRow x = withAct(4, 350, 50);
        due(0, x.law(2, 4, 4, 1000));
        due(1, x.would(0, 4, 350, 49));
        due(1, x.would(0, 4, 351, 50));
        due(0, x.would(0, 4, 350, 51));
        due(0, x.would(0, 4, 50, 110));
        due(1, x.would(0, 4, 50, 109));
    }

    @Edge(promise = 0, words = "is done for at least n milliseconds (0 to 60000)")
    static void longestAndShortestLong() {
        // what is done all the ring but a DEGREE, at the slowest PACE, is done for 59833
        GobRow x = withAct(0, 1, 0);
        due(10, x.pace(1));
        due(GobRow.LAW, x.law(2, 0, 0, 60000));
        due(GobRow.NUMBER, x.law(2, 0, 0, 60001));
        due(GobRow.NUMBER, x.law(2, 0, 0, -1));
        due(0, x.law(2, 0, 0, 0));
        due(60, x.fastest());
        due(1, x.set(0, 0, 0, 1));
        due(1, x.pace(60));
    }

    @Edge(promise = 0, words = "2 (LONG): ACT a (b counts nothing)")
    static void longLooksAtOneAct() {
        for (int b = 0; b < 8; b++) {
            GobRow x = new GobRow();
            due(0, x.law(2, 3, b, 333));
            for (int act = 0; act < 8; act++) {
                due(act == 3 ? 1 : 0, x.would(2, act, 0, 1));
            }
        }
    }

    @Edge(promise = 0, words = "3 (WITHIN): at each DEGREE at which ACT a is done b is done")
    static void withinToTheDegree() {
        GobRow x = withAct(1, 0, 20);
        due(0, x.law(3, 0, 1, 0));
        due(0, x.would(0, 0, 0, 20));
        due(0, x.would(0, 0, 0, 19));
        due(0, x.would(0, 0, 1, 20));
        due(1, x.would(0, 0, 359, 20));
        due(1, x.would(0, 0, 0, 21));
        due(0, x.would(0, 0, 0, 1));
        due(0, x.would(0, 0, 19, 20));
        due(1, x.would(0, 0, 20, 21));
        due(1, x.would(0, 0, 359, 0));
        due(1, x.would(0, 0, 20, 0));
        // both ends are within, but not what lies between them
        due(1, x.would(0, 0, 10, 5));
        // and the outer one, which is 1
        due(0, x.would(0, 1, 359, 20));
        due(0, x.would(0, 1, 0, 21));
        due(1, x.would(0, 1, 1, 20));
        due(1, x.would(0, 1, 0, 19));
        due(1, x.would(0, 1, 20, 0));
        due(1, x.would(0, 1, 20, 19));
        due(0, x.would(0, 1, 21, 20));
    }

    @Edge(promise = 0, words = "at each DEGREE at which ACT a is done b is done")
    static void withinThroughZero() {
        GobRow x = withAct(1, 350, 10);
        setAll(x, 0, 1, 5);
        due(0, x.law(3, 0, 1, 60000));
        due(0, x.would(0, 0, 350, 10));
        due(1, x.would(0, 0, 349, 10));
        due(1, x.would(0, 0, 350, 11));
        due(0, x.would(0, 0, 359, 0));
        due(0, x.would(0, 0, 0, 1));
        due(0, x.would(0, 0, 9, 10));
        due(1, x.would(0, 0, 10, 11));
        due(0, x.would(0, 0, 350, 351));
        due(1, x.would(0, 0, 349, 350));
        due(1, x.would(0, 0, 355, 354));
        // all the ring but DEGREE 0
        due(1, x.set(0, 1, 1, 0));
        due(0, x.would(0, 0, 1, 0));
        due(1, x.would(0, 0, 0, 1));
        due(0, x.would(0, 0, 359, 0));
        due(1, x.would(0, 0, 359, 1));
        due(1, x.would(0, 0, 2, 1));
    }

    @Edge(promise = 0, words = "(n counts nothing)")
    static void countsNothing() {
        for (int n : new int[] {0, 1, 359, 360, 60000}) {
            GobRow x = withAct(3, 80, 100);
            due(0, x.law(1, 0, 1, n));
            due(1, x.law(3, 2, 3, n));
            due(60, x.fastest());
            due(0, x.would(0, 0, 39, 40));
            due(1, x.would(0, 0, 40, 41));
            due(0, x.would(0, 2, 99, 100));
            due(2, x.would(0, 2, 100, 101));
        }
    }

    @Edge(promise = 0, words = "All DRUMS are under all LAWS, always.")
    static void allDrumsUnderAllLaws() {
        for (int section = 0; section < 6; section++) {
            GobRow one = new GobRow();
            due(1, one.set(section, 1, 20, 40));
            due(GobRow.LAW, one.law(0, 0, 1, 1));
            GobRow all = new GobRow();
            fillLaws(all, 15);
            due(15, all.law(0, 0, 1, 20));
            due(GobRow.LAW - 15, all.set(section, 1, 39, 40));
            due(1, all.turn(section, 330));
            due(GobRow.LAW - 15, all.set(section, 1, 9, 10));
            due(1, all.set(section, 1, 10, 11));
            due(1, all.copy((section + 1) % 6, section));
            due(GobRow.LAW - 15, all.set((section + 1) % 6, 1, 9, 10));
        }
    }

    // ---- promise 2

    @Edge(promise = 2, words = "LAW less the first one that this DRUM would break")
    static void firstLawThatIsBroken() {
        GobRow x = new GobRow();
        fillLaws(x, 13);
        due(13, x.law(0, 0, 1, 20));
        due(14, x.law(1, 0, 1, 0));
        due(15, x.law(2, 0, 0, 333));
        due(GobRow.LAW - 13, x.set(0, 0, 20, 21));
        due(GobRow.LAW - 14, x.set(0, 0, 0, 41));
        due(GobRow.LAW - 15, x.set(0, 0, 1, 20));
        due(GobRow.LAW - 13, x.set(0, 0, 40, 21));
        due(1, x.set(0, 0, 60, 20));
        GobRow y = new GobRow();
        due(0, y.law(0, 0, 1, 20));
        due(GobRow.LAW, y.set(0, 0, 0, 21));
    }

    @Edge(promise = 2, words = "NUMBER: there is no such SECTION, ACT, on or off is no DEGREE, or they are the same; LAW less")
    static void setNumberAheadOfLaw() {
        GobRow x = new GobRow();
        due(0, x.law(2, 0, 0, 333));
        // each of these is no number, and the ACT would be too short
        due(GobRow.NUMBER, x.set(0, 0, 5, 5));
        due(GobRow.NUMBER, x.set(6, 0, 5, 6));
        due(GobRow.NUMBER, x.set(-1, 0, 5, 6));
        due(GobRow.NUMBER, x.set(0, 0, 359, 360));
        due(GobRow.NUMBER, x.set(0, 0, -1, 0));
        due(GobRow.LAW, x.set(0, 0, 359, 0));
        due(GobRow.NUMBER, x.set(0, 0, 360, 360));
        due(GobRow.NUMBER, x.set(0, 8, 5, 6));
        due(GobRow.NUMBER, x.set(6, 8, 360, 360));
    }

    @Edge(promise = 2, words = "An ACT of a SECTION's DRUM is ON and OFF at other DEGREES: 1.")
    static void setToWhatItIs() {
        GobRow x = new GobRow();
        due(0, x.law(0, 0, 1, 20));
        due(1, x.set(0, 0, 0, 20));
        due(1, x.set(0, 0, 0, 20));
        due(0, x.act(0, 0, 0, 0));
        due(20, x.act(0, 0, 1, 0));
    }

    // ---- promise 3

    @Edge(promise = 3, words = "NUMBER: there is no such SECTION, or by isn't -359 to 359.")
    static void turnBy() {
        Edges.range(-359, 359, (x, v) -> x.turn(0, v));
        GobRow x = new GobRow();
        due(GobRow.NUMBER, x.turn(6, 360));
        due(GobRow.NUMBER, x.turn(-1, -360));
        due(GobRow.NUMBER, x.turn(6, 0));
        due(1, x.turn(0, 0));
        due(0, x.act(0, 0, 0, 0));
    }

    @Edge(promise = 3, words = "by so many DEGREES later (in the ring; earlier below 0)")
    static void turnThroughZero() {
        for (int by : new int[] {-359, -301, -300, -299, -20, -1, 0, 1, 59, 60, 61, 340, 359}) {
            GobRow x = new GobRow();
            due(1, x.turn(4, by));
            for (int act = 0; act < 8; act++) {
                due((40 * act + by + 360) % 360, x.act(4, act, 0, 0));
                due((40 * act + 20 + by + 360) % 360, x.act(4, act, 1, 0));
                due(20, x.act(4, act, 2, 0));
                due(40 * act, x.act(3, act, 0, 0));
                due(40 * act, x.act(5, act, 0, 0));
            }
        }
    }

    @Edge(promise = 3, words = "All of a SECTION's ACTS are ON and OFF by so many DEGREES later")
    static void turnFromBothEndsOfTheRing() {
        GobRow x = new GobRow();
        due(1, x.set(0, 0, 359, 0));
        due(1, x.turn(0, 1));
        due(0, x.act(0, 0, 0, 0));
        due(1, x.act(0, 0, 1, 0));
        due(1, x.turn(0, -1));
        due(359, x.act(0, 0, 0, 0));
        due(0, x.act(0, 0, 1, 0));
        due(1, x.turn(0, 359));
        due(358, x.act(0, 0, 0, 0));
        due(359, x.act(0, 0, 1, 0));
        due(1, x.turn(0, -359));
        due(359, x.act(0, 0, 0, 0));
        due(0, x.act(0, 0, 1, 0));
    }

    @Edge(promise = 3, words = "All of a SECTION's ACTS are ON and OFF by so many DEGREES later (in the ring; earlier below 0): 1.")
    static void turnIsNeverAgainstALaw() {
        GobRow x = withAct(5, 240, 260);
        due(0, x.law(0, 7, 0, 60));
        due(1, x.law(1, 0, 1, 0));
        due(2, x.law(2, 0, 0, 333));
        due(3, x.law(3, 5, 6, 0));
        for (int by = -359; by <= 359; by += 7) {
            due(1, x.turn(2, by));
            due(1, x.turn(2, -by));
        }
        due(0, x.act(2, 0, 0, 0));
        due(1, x.turn(2, 359));
        due(0, x.would(2, 0, 359, 19));
        due(1, x.would(2, 0, 358, 19));
    }

    // ---- promise 4

    @Edge(promise = 4, words = "NUMBER: there is no such SECTION (either).")
    static void copyEither() {
        GobRow x = new GobRow();
        due(1, x.set(5, 7, 300, 299));
        int[][] wrong = {{6, 5}, {-1, 5}, {0, 6}, {0, -1}, {6, 6}, {-1, -1}, {6, -1}};
        for (int[] w : wrong) {
            due(GobRow.NUMBER, x.copy(w[0], w[1]));
        }
        due(280, x.act(0, 7, 0, 0));
        due(1, x.copy(0, 5));
        due(300, x.act(0, 7, 0, 0));
        due(299, x.act(0, 7, 1, 0));
        due(1, x.copy(5, 1));
        due(280, x.act(5, 7, 0, 0));
        due(300, x.act(0, 7, 0, 0));
    }

    @Edge(promise = 4, words = "The DRUM of one SECTION becomes that of another one: 1.")
    static void copyOfItself() {
        GobRow x = new GobRow();
        due(1, x.set(3, 0, 7, 3));
        due(1, x.copy(3, 3));
        due(7, x.act(3, 0, 0, 0));
        due(3, x.act(3, 0, 1, 0));
        due(280, x.act(3, 7, 0, 0));
    }

    // ---- promise 5

    @Edge(promise = 5, words = "NUMBER: kind isn't 0 to 3")
    static void lawKind() {
        Edges.range(0, 3, (x, v) -> x.law(v, 0, 1, 0));
        due(GobRow.NUMBER, new GobRow().law(4, 0, 0, 0));
        due(GobRow.NUMBER, new GobRow().law(-1, 0, 0, 0));
    }

    @Edge(promise = 5, words = "a or b is no ACT (also where b counts nothing)")
    static void lawActWhereItCountsNothing() {
        GobRow x = new GobRow();
        due(GobRow.NUMBER, x.law(2, 0, 8, 0));
        due(GobRow.NUMBER, x.law(2, 0, -1, 0));
        due(GobRow.NUMBER, x.law(2, 8, 8, 0));
        due(GobRow.NUMBER, x.law(2, -1, -1, 0));
        due(0, x.law(2, 0, 7, 0));
        due(1, x.law(2, 7, 0, 0));
        due(2, x.many(13));
    }

    @Edge(promise = 5, words = "they are the same (but for kind 2)")
    static void lawOfOneAct() {
        for (int act = 0; act < 8; act++) {
            GobRow x = new GobRow();
            due(GobRow.NUMBER, x.law(0, act, act, 0));
            due(GobRow.NUMBER, x.law(1, act, act, 0));
            due(GobRow.NUMBER, x.law(3, act, act, 0));
            due(0, x.law(2, act, act, 0));
        }
    }

    @Edge(promise = 5, words = "n isn't as told (for 1 and 3: 0 to 60000)")
    static void lawNumber() {
        Edges.range(0, 359, (x, v) -> x.law(0, 0, 1, v));
        Edges.range(0, 60000, (x, v) -> x.law(1, 0, 1, v));
        Edges.range(0, 60000, (x, v) -> x.law(2, 0, 1, v));
        Edges.range(0, 60000, (x, v) -> x.law(3, 0, 1, v));
        due(0, new GobRow().law(1, 0, 1, 60000));
    }

    @Edge(promise = 5, words = "FULL; LAW less its own number: some DRUM breaks it.")
    static void lawRefusalsInTheirOrder() {
        GobRow x = new GobRow();
        due(GobRow.LAW, x.law(3, 0, 1, 0));
        due(0, x.many(13));
        fillLaws(x, 15);
        due(GobRow.LAW - 15, x.law(3, 0, 1, 0));
        due(15, x.many(13));
        fillLaws(x, 16);
        due(GobRow.FULL, x.law(3, 0, 1, 0));
        due(GobRow.FULL, x.law(2, 0, 0, 0));
        due(GobRow.NUMBER, x.law(3, 0, 1, 60001));
        due(GobRow.NUMBER, x.law(3, 0, 0, 0));
        due(GobRow.NUMBER, x.law(3, 8, 1, 0));
        due(GobRow.NUMBER, x.law(4, 0, 1, 0));
        due(15, x.repeal());
        due(GobRow.LAW - 15, x.law(3, 0, 1, 0));
        due(15, x.law(2, 0, 0, 0));
        due(GobRow.FULL, x.law(2, 0, 0, 0));
    }

    @Edge(promise = 5, words = "LAW less its own number: some DRUM breaks it.")
    static void lawTellsItsOwnNumber() {
        GobRow x = new GobRow();
        due(0, x.law(0, 0, 1, 20));
        due(GobRow.LAW - 1, x.law(0, 0, 1, 21));
        due(1, x.law(0, 0, 1, 20));
        due(GobRow.LAW - 2, x.law(0, 0, 1, 21));
        // what was refused is no LAW
        due(1, x.would(0, 0, 0, 21));
        due(0, x.would(0, 0, 0, 20));
        due(2, x.many(13));
    }

    // ---- promise 6

    @Edge(promise = 6, words = "how many there are. NONE: there are none.")
    static void repealFromFullToNone() {
        GobRow x = new GobRow();
        due(GobRow.NONE, x.repeal());
        due(0, x.many(13));
        fillLaws(x, 16);
        for (int left = 15; left >= 0; left--) {
            due(left, x.repeal());
            due(left, x.many(13));
        }
        due(GobRow.NONE, x.repeal());
        due(GobRow.NONE, x.repeal());
        due(0, x.many(13));
        due(0, x.law(1, 0, 1, 0));
    }

    @Edge(promise = 6, words = "The latest LAW is no more")
    static void repealOfTheLatest() {
        GobRow x = new GobRow();
        fillLaws(x, 14);
        due(14, x.law(1, 0, 1, 0));
        due(15, x.law(1, 0, 2, 0));
        due(15, x.would(0, 0, 40, 100));
        due(16, x.would(0, 0, 80, 100));
        due(15, x.repeal());
        due(15, x.would(0, 0, 40, 100));
        due(0, x.would(0, 0, 80, 100));
        due(14, x.repeal());
        due(0, x.would(0, 0, 40, 100));
    }

    // ---- promise 7

    @Edge(promise = 7, words = "PACE becomes another one: what it was. NUMBER: it isn't 1 to 60")
    static void slowestAndFastestPace() {
        GobRow x = new GobRow();
        due(10, x.pace(1));
        due(GobRow.NUMBER, x.pace(0));
        due(1, x.many(14));
        due(1, x.pace(60));
        due(GobRow.NUMBER, x.pace(61));
        due(60, x.many(14));
        due(60, x.pace(60));
        due(60, x.pace(10));
    }

    @Edge(promise = 7, words = "LAW less the first one that some DRUM would break.")
    static void firstLawOfAnyDrum() {
        GobRow x = withAct(0, 0, 40);
        setAll(x, 1, 40, 80);
        // LAW 0 would be broken by the last DRUM alone, LAW 1 by the first one alone
        due(1, x.set(5, 0, 0, 20));
        due(1, x.set(0, 1, 40, 60));
        due(0, x.law(2, 0, 0, 333));
        due(1, x.law(2, 1, 1, 333));
        due(GobRow.LAW, x.pace(11));
        due(10, x.many(14));
        due(1, x.set(5, 0, 0, 40));
        due(GobRow.LAW - 1, x.pace(11));
        due(1, x.set(0, 1, 40, 80));
        due(GobRow.LAW, x.pace(21));
        due(10, x.pace(20));
        due(20, x.many(14));
    }

    @Edge(promise = 7, words = "NUMBER: it isn't 1 to 60; LAW less")
    static void paceNumberAheadOfLaw() {
        GobRow x = new GobRow();
        fillLaws(x, 15);
        due(15, x.law(2, 7, 7, 333));
        due(GobRow.LAW - 15, x.pace(60));
        due(GobRow.NUMBER, x.pace(61));
        due(GobRow.NUMBER, x.pace(Integer.MAX_VALUE));
        due(GobRow.LAW - 15, x.pace(11));
        due(10, x.pace(10));
        due(10, x.pace(1));
    }

    // ---- promise 8

    @Edge(promise = 8, words = "The greatest PACE, up to 60, with which no DRUM breaks a LAW.")
    static void fastestAtBothEnds() {
        GobRow x = withAct(0, 0, 36);
        due(60, x.fastest());
        due(0, x.law(2, 0, 0, 0));
        due(60, x.fastest());
        due(1, x.law(2, 0, 0, 1));
        due(60, x.fastest());
        // 36 times 500 are 18000, as 3 times 60 times 100 are
        due(2, x.law(2, 0, 0, 100));
        due(60, x.fastest());
        due(3, x.law(2, 0, 0, 101));
        due(59, x.fastest());
        due(10, x.pace(1));
        due(4, x.law(2, 0, 0, 3000));
        due(2, x.fastest());
        due(5, x.law(2, 0, 0, 3001));
        due(1, x.fastest());
        due(6, x.law(2, 0, 0, 6000));
        due(1, x.fastest());
        due(GobRow.LAW - 7, x.law(2, 0, 0, 6001));
        due(1, x.many(14));
    }

    @Edge(promise = 8, words = "with which no DRUM breaks a LAW")
    static void fastestOfAllDrumsAndLaws() {
        for (int section = 0; section < 6; section++) {
            GobRow x = withAct(0, 0, 40);
            due(1, x.set(section, 0, 0, 22));
            due(0, x.law(2, 0, 0, 333));
            fillLaws(x, 16);
            due(11, x.fastest());
            due(10, x.pace(11));
            due(11, x.fastest());
            due(GobRow.LAW, x.pace(12));
        }
        GobRow last = new GobRow();
        fillLaws(last, 15);
        due(15, last.law(2, 0, 0, 333));
        due(10, last.fastest());
    }

    @Edge(promise = 8, words = "up to 60")
    static void fastestWithoutLong() {
        GobRow x = withAct(5, 240, 260);
        due(0, x.law(0, 0, 1, 20));
        due(1, x.law(1, 0, 1, 60000));
        due(2, x.law(3, 5, 6, 60000));
        due(60, x.fastest());
        due(10, x.pace(60));
        due(60, x.fastest());
    }

    // ---- promise 9

    @Edge(promise = 9, words = "NUMBER: there is no such SECTION, ACT, another what, or (3) degree is none.")
    static void actWhat() {
        Edges.range(0, 3, (x, v) -> x.act(0, 0, v, 0));
        GobRow x = new GobRow();
        for (int degree : new int[] {-1, 360, Integer.MIN_VALUE, Integer.MAX_VALUE}) {
            due(280, x.act(5, 7, 0, degree));
            due(300, x.act(5, 7, 1, degree));
            due(20, x.act(5, 7, 2, degree));
            due(GobRow.NUMBER, x.act(5, 7, 3, degree));
            due(GobRow.NUMBER, x.act(5, 7, 4, degree));
        }
        due(0, x.act(5, 7, 3, 0));
        due(0, x.act(5, 7, 3, 359));
    }

    @Edge(promise = 9, words = "2 for how many DEGREES it is done")
    static void fewestAndMostDegrees() {
        GobRow x = new GobRow();
        int[][] acts = {{0, 1, 1}, {359, 0, 1}, {0, 359, 359}, {1, 0, 359}, {359, 358, 359}, {359, 1, 2}, {1, 359, 358}};
        for (int[] act : acts) {
            due(1, x.set(0, 0, act[0], act[1]));
            due(act[2], x.act(0, 0, 2, 0));
        }
    }

    // ---- promise 10

    @Edge(promise = 10, words = "0 nothing; else 1 and the first LAW that would be broken.")
    static void wouldTellsFirstAndLastLaw() {
        GobRow x = new GobRow();
        due(0, x.would(0, 0, 0, 1));
        due(0, x.law(0, 0, 1, 20));
        fillLaws(x, 15);
        due(15, x.law(2, 0, 0, 333));
        due(0, x.would(0, 0, 0, 20));
        due(1, x.would(0, 0, 0, 21));
        due(16, x.would(0, 0, 1, 20));
        due(1, x.would(0, 0, 20, 21));
        due(0, x.act(0, 0, 0, 0));
        due(20, x.act(0, 0, 1, 0));
        due(15, x.repeal());
        due(0, x.would(0, 0, 1, 20));
    }

    @Edge(promise = 10, words = "NUMBER as of set().")
    static void wouldNumberAheadOfLaw() {
        GobRow x = new GobRow();
        due(0, x.law(2, 0, 0, 333));
        due(1, x.would(0, 0, 359, 0));
        due(GobRow.NUMBER, x.would(0, 0, 5, 5));
        due(GobRow.NUMBER, x.would(6, 0, 5, 6));
        due(GobRow.NUMBER, x.would(-1, 0, 5, 6));
        due(GobRow.NUMBER, x.would(0, 8, 5, 6));
        due(GobRow.NUMBER, x.would(0, -1, 5, 6));
        due(GobRow.NUMBER, x.would(0, 0, 359, 360));
        due(GobRow.NUMBER, x.would(0, 0, -1, 0));
        due(0, x.would(5, 7, 359, 358));
    }
}
