/** The edges of promises 13 to 21, and of what the terms say of steps, nearest points, cells and the text. */
public final class EdgeStepTest {
    private static final Edge EDGE = new Edge();

    public static void main(String[] args) {
        stepNumbers();
        stepOrder();
        lastSteps();
        secondSteps();
        leastStepsSpan();
        stepCounts();
        nearRanges();
        nearTies();
        nearFar();
        cornerCounts();
        cornerNumbers();
        firstCorners();
        fractions();
        signs();
        EDGE.end();
    }

    /** A yard whose slot 0 and slot 7 hold the grid that two steps span. */
    private static Latticeyard grid(int x, int y, int u, int v) {
        Latticeyard yard = new Latticeyard();
        yard.spanned(0, x, y, u, v);
        yard.spanned(7, u, v, x, y);
        return yard;
    }

    private static Latticeyard all() {
        return grid(1, 0, 0, 1);
    }

    // ---- promises 13, 14

    private static void stepNumbers() {
        EDGE.slots("stepX", Edge::full, (y, slot) -> y.stepX(slot, 3));
        EDGE.slots("stepY", Edge::full, (y, slot) -> y.stepY(slot, 3));
        EDGE.edges("stepX number", Edge::full, Edge.ARGUMENT, 0, 19, (y, number) -> y.stepX(7, number));
        EDGE.edges("stepY number", Edge::full, Edge.ARGUMENT, 0, 19, (y, number) -> y.stepY(7, number));
        Edge.Scene open = Edge::open;
        EDGE.refused("stepX of none", open, Edge.NO_ELEMENT, y -> y.stepX(1, 0));
        EDGE.refused("stepY of none", open, Edge.NO_ELEMENT, y -> y.stepY(1, 19));
        EDGE.refused("stepX no slot, number", open, Edge.INDEX, y -> y.stepX(8, 20));
        EDGE.refused("stepY no slot, number", open, Edge.INDEX, y -> y.stepY(-1, -1));
        EDGE.refused("stepX number, none", open, Edge.ARGUMENT, y -> y.stepX(1, 20));
        EDGE.refused("stepX number -1, none", open, Edge.ARGUMENT, y -> y.stepX(1, -1));
        EDGE.refused("stepY number, none", open, Edge.ARGUMENT, y -> y.stepY(1, 20));
        EDGE.refused("stepY number -1, none", open, Edge.ARGUMENT, y -> y.stepY(1, -1));
    }

    /** The first twenty of all points: of like length by rising x, then by rising y. */
    private static void stepOrder() {
        int[][] due = {{0, 1}, {1, 0}, {1, -1}, {1, 1}, {0, 2}, {2, 0}, {1, -2}, {1, 2}, {2, -1}, {2, 1}, {2, -2},
            {2, 2}, {0, 3}, {3, 0}, {1, -3}, {1, 3}, {3, -1}, {3, 1}, {2, -3}, {2, 3}};
        Latticeyard yard = all();
        for (int number = 0; number < 20; number++) {
            EDGE.due("x of step " + number, yard.stepX(0, number), due[number][0]);
            EDGE.due("y of step " + number, yard.stepY(0, number), due[number][1]);
        }
    }

    private static void lastSteps() {
        EDGE.answers("x 0 is told with y above 0", () -> grid(0, -500, 500, 0), 500, y -> y.stepY(0, 0));
        EDGE.answers("its x", () -> grid(0, -500, 500, 0), 0, y -> y.stepX(0, 0));
        EDGE.answers("x is told above 0", () -> grid(-499, 1, 0, 500), 499, y -> y.stepX(7, 0));
        EDGE.answers("its y below 0", () -> grid(-499, 1, 0, 500), -1, y -> y.stepY(7, 0));
        // Twenty steps in one line, the last one twenty times as long as the first one.
        EDGE.answers("thin, last x", () -> grid(1, -1, 500, 499), 20, y -> y.stepX(0, 19));
        EDGE.answers("thin, last y", () -> grid(1, -1, 500, 499), -20, y -> y.stepY(0, 19));
        EDGE.answers("upright, last y", () -> grid(0, 1, 500, 0), 20, y -> y.stepY(0, 19));
        EDGE.answers("upright, last x", () -> grid(0, 1, 500, 0), 0, y -> y.stepX(0, 19));
    }

    // ---- promise 15

    private static void secondSteps() {
        EDGE.slots("second", Edge::full, (y, slot) -> y.second(slot));
        EDGE.refused("second of none", Edge::open, Edge.NO_ELEMENT, y -> y.second(7));
        EDGE.answers("least number", EdgeStepTest::all, 1, y -> y.second(0));
        EDGE.answers("2", () -> grid(2, 0, 0, 1), 2, y -> y.second(0));
        EDGE.answers("18", () -> grid(18, 0, 0, 1), 18, y -> y.second(0));
        EDGE.answers("greatest number", () -> grid(19, 0, 0, 1), 19, y -> y.second(7));
        EDGE.answers("none of 0 to 19", () -> grid(20, 0, 0, 1), -1, y -> y.second(0));
        EDGE.answers("greatest number, upright", () -> grid(1, 0, 0, 20), 19, y -> y.second(0));
        EDGE.answers("none, upright", () -> grid(1, 0, 0, 21), -1, y -> y.second(7));
        EDGE.answers("all points, of great steps", () -> grid(500, 499, 1, 1), 1, y -> y.second(0));
        EDGE.answers("none, aslant", () -> grid(1, 1, 500, -500), -1, y -> y.second(0));
    }

    /** The step 0 and the first one that is not in a line with it span the grid. */
    private static void leastStepsSpan() {
        int[][] all = {{1, 0, 0, 1}, {2, 1, 0, 3}, {19, 0, 0, 1}, {500, 500, -500, 500}, {500, 499, -499, 500},
            {500, 499, 499, 498}, {500, -500, 1, 500}, {-500, 3, 500, 500}};
        for (int[] by : all) {
            Latticeyard yard = new Latticeyard();
            int index = yard.spanned(0, by[0], by[1], by[2], by[3]);
            int aside = yard.second(0);
            int x = yard.stepX(0, 0);
            int y = yard.stepY(0, 0);
            int u = yard.stepX(0, aside);
            int v = yard.stepY(0, aside);
            // Two points of a grid span it if they span one of its index.
            EDGE.yes("both are points", yard.has(0, x, y) && yard.has(0, u, v));
            EDGE.due("the index that they span", Math.abs(x * v - y * u), index);
        }
    }

    // ---- promise 16

    private static void stepCounts() {
        EDGE.slots("steps", Edge::full, (y, slot) -> y.steps(slot, 30));
        EDGE.edges("steps length", Edge::full, Edge.ARGUMENT, 0, 2500, (y, length) -> y.steps(7, length));
        EDGE.refused("steps of none", Edge::open, Edge.NO_ELEMENT, y -> y.steps(7, 0));
        EDGE.refused("steps no slot, length", Edge::open, Edge.INDEX, y -> y.steps(8, 2501));
        EDGE.refused("steps length, none", Edge::open, Edge.ARGUMENT, y -> y.steps(7, 2501));
        EDGE.refused("steps length -1, none", Edge::open, Edge.ARGUMENT, y -> y.steps(7, -1));
        EDGE.answers("0, 0 is not counted", EdgeStepTest::all, 0, y -> y.steps(0, 0));
        EDGE.answers("length 1", EdgeStepTest::all, 4, y -> y.steps(0, 1));
        EDGE.answers("length 24", EdgeStepTest::all, 68, y -> y.steps(0, 24));
        EDGE.answers("length 25 has twelve more", EdgeStepTest::all, 80, y -> y.steps(0, 25));
        EDGE.answers("length 2499", EdgeStepTest::all, slowCount(2499), y -> y.steps(7, 2499));
        EDGE.answers("length 2500", EdgeStepTest::all, slowCount(2500), y -> y.steps(7, 2500));
        EDGE.answers("just out", () -> grid(50, 0, 0, 50), 0, y -> y.steps(0, 2499));
        EDGE.answers("just in", () -> grid(50, 0, 0, 50), 4, y -> y.steps(0, 2500));
        EDGE.answers("just in, aslant", () -> grid(30, 40, -40, 30), 4, y -> y.steps(0, 2500));
        EDGE.answers("too wide", () -> grid(51, 0, 0, 51), 0, y -> y.steps(0, 2500));
        EDGE.answers("along x alone", () -> grid(1, 0, 0, 51), 100, y -> y.steps(0, 2500));
        EDGE.answers("along y alone", () -> grid(51, 0, 0, 1), 100, y -> y.steps(0, 2500));
        EDGE.answers("greatest index", () -> grid(500, 500, -500, 500), 0, y -> y.steps(0, 2500));
    }

    private static int slowCount(int length) {
        int count = -1;
        for (int x = -50; x <= 50; x++) {
            for (int y = -50; y <= 50; y++) {
                count += x * x + y * y <= length ? 1 : 0;
            }
        }
        return count;
    }

    // ---- promises 17, 18

    private static void nearRanges() {
        EDGE.slots("nearX", Edge::full, (y, slot) -> y.nearX(slot, 1, 1));
        EDGE.slots("nearY", Edge::full, (y, slot) -> y.nearY(slot, 1, 1));
        EDGE.edges("nearX x", Edge::full, Edge.ARGUMENT, -2000, 2000, (y, x) -> y.nearX(7, x, 0));
        EDGE.edges("nearX y", Edge::full, Edge.ARGUMENT, -2000, 2000, (y, of) -> y.nearX(7, 0, of));
        EDGE.edges("nearY x", Edge::full, Edge.ARGUMENT, -2000, 2000, (y, x) -> y.nearY(7, x, 0));
        EDGE.edges("nearY y", Edge::full, Edge.ARGUMENT, -2000, 2000, (y, of) -> y.nearY(7, 0, of));
        for (int far : new int[] {-2001, 2001}) {
            EDGE.refused("nearX no slot, x", Edge::open, Edge.INDEX, y -> y.nearX(8, far, 0));
            EDGE.refused("nearX no slot, y", Edge::open, Edge.INDEX, y -> y.nearX(-1, 0, far));
            EDGE.refused("nearX x, none", Edge::open, Edge.ARGUMENT, y -> y.nearX(7, far, 0));
            EDGE.refused("nearX y, none", Edge::open, Edge.ARGUMENT, y -> y.nearX(7, 0, far));
            EDGE.refused("nearY no slot, x", Edge::open, Edge.INDEX, y -> y.nearY(8, far, 0));
            EDGE.refused("nearY no slot, y", Edge::open, Edge.INDEX, y -> y.nearY(-1, 0, far));
            EDGE.refused("nearY x, none", Edge::open, Edge.ARGUMENT, y -> y.nearY(7, far, 0));
            EDGE.refused("nearY y, none", Edge::open, Edge.ARGUMENT, y -> y.nearY(7, 0, far));
        }
        EDGE.refused("nearX of none", Edge::open, Edge.NO_ELEMENT, y -> y.nearX(7, 0, 0));
        EDGE.refused("nearY of none", Edge::open, Edge.NO_ELEMENT, y -> y.nearY(7, 0, 0));
    }

    private static void near(String what, Edge.Scene scene, int x, int y, int dueX, int dueY) {
        EDGE.answers(what + ", x", scene, dueX, yard -> yard.nearX(0, x, y));
        EDGE.answers(what + ", y", scene, dueY, yard -> yard.nearY(0, x, y));
    }

    private static void nearTies() {
        near("a point itself", EdgeStepTest::all, 2000, -2000, 2000, -2000);
        near("0, 0", Edge::full, 0, 0, 0, 0);
        Edge.Scene even = () -> grid(2, 0, 0, 2);
        near("of four", even, 1, 1, 0, 0);
        near("of four below 0", even, -1, -1, -2, -2);
        near("of two by x", even, 1, 0, 0, 0);
        near("of two by y", even, 0, 1, 0, 0);
        near("of two by y below 0", even, 0, -1, 0, -2);
        near("of four at the edge", even, 1999, -1999, 1998, -2000);
        Edge.Scene checkers = () -> grid(1, 1, 1, -1);
        near("of four, one with the least x", checkers, 1, 0, 0, 0);
        near("also at the edge", checkers, -2000, 1999, -2001, 1999);
        // 1, 3 and 3, 1 are as far from 2, 2.
        near("least x ahead of least y", () -> grid(1, 3, 3, 1), 2, 2, 1, 3);
        // 0, 0 and 4, 2 are as far from 2, 1, and 0, 0 and 4, -2 from 2, -1.
        near("aslant", () -> grid(4, 2, -4, 8), 2, 1, 0, 0);
        near("aslant, less x and more y", () -> grid(4, -2, 4, 8), 2, -1, 0, 0);
    }

    private static void nearFar() {
        near("far in a wide grid", () -> grid(500, 500, -500, 500), 2000, 2000, 2000, 2000);
        near("between in a wide grid", () -> grid(500, 500, -500, 500), 2000, 1500, 1500, 1500);
        near("the other corner", () -> grid(500, 499, -499, 500), -2000, -2000, -2000, -1996);
        near("in a thin grid", () -> grid(500, 0, 0, 1), 1751, -2000, 2000, -2000);
        near("in a thin grid, halfway", () -> grid(500, 0, 0, 1), 1750, 2000, 1500, 2000);
        near("below 0, halfway", () -> grid(500, 0, 0, 1), -1750, 2000, -2000, 2000);
        near("flat, halfway", () -> grid(1, 0, 0, 500), -2000, -1750, -2000, -2000);
    }

    // ---- promises 19, 20

    private static void cornerCounts() {
        EDGE.slots("corners", Edge::full, (y, slot) -> y.corners(slot));
        EDGE.refused("corners of none", Edge::open, Edge.NO_ELEMENT, y -> y.corners(7));
        EDGE.answers("a square", EdgeStepTest::all, 4, y -> y.corners(0));
        EDGE.answers("a square aslant", () -> grid(500, 499, -499, 500), 4, y -> y.corners(7));
        EDGE.answers("upright", () -> grid(0, 500, 1, 0), 4, y -> y.corners(0));
        EDGE.answers("almost a square", () -> grid(500, 499, -500, 500), 6, y -> y.corners(0));
        EDGE.answers("almost upright", () -> grid(500, 1, 0, 3), 6, y -> y.corners(0));
        EDGE.answers("six", Edge::open, 6, y -> y.corners(0));
        EDGE.answers("checkers", () -> grid(1, 1, 1, -1), 4, y -> y.corners(0));
        EDGE.answers("halfway moved", () -> grid(2, 1, 0, 2), 6, y -> y.corners(0));
    }

    private static void cornerNumbers() {
        for (boolean isX : new boolean[] {true, false}) {
            EDGE.slots("tellCorner", Edge::full, (y, slot) -> y.tellCorner(slot, 0, isX));
            EDGE.edges("corner of four", EdgeStepTest::all, Edge.NO_ELEMENT, 0, 3, (y, n) -> y.tellCorner(7, n, isX));
            EDGE.edges("corner of six", Edge::open, Edge.NO_ELEMENT, 0, 5, (y, n) -> y.tellCorner(0, n, isX));
            EDGE.refused("tellCorner of none", Edge::open, Edge.NO_ELEMENT, y -> y.tellCorner(7, 0, isX));
            EDGE.refused("no slot, no corner", Edge::open, Edge.INDEX, y -> y.tellCorner(8, 6, isX));
            EDGE.refused("no slot -1, no corner", Edge::open, Edge.INDEX, y -> y.tellCorner(-1, -1, isX));
            EDGE.refused("none, no corner", Edge::open, Edge.NO_ELEMENT, y -> y.tellCorner(1, 6, isX));
        }
    }

    private static void cell(String what, Edge.Scene scene, String... due) {
        for (int place = 0; place < due.length; place++) {
            int number = place / 2;
            boolean isX = place % 2 == 0;
            EDGE.tells(what + ", corner " + number, scene, due[place], y -> y.tellCorner(0, number, isX));
        }
    }

    private static void firstCorners() {
        cell("greatest x, then greatest y", () -> grid(2, 0, 0, 6), "1/1", "3/1", "-1/1", "3/1", "-1/1", "-3/1",
                "1/1", "-3/1");
        cell("one greatest x", () -> grid(1, 1, 1, -1), "1/1", "0/1", "0/1", "1/1", "-1/1", "0/1", "0/1", "-1/1");
        cell("two of six with the greatest x", () -> grid(2, 0, 1, 2), "1/1", "3/4", "0/1", "5/4", "-1/1", "3/4",
                "-1/1", "-3/4", "0/1", "-5/4", "1/1", "-3/4");
        cell("one of six with the greatest x", () -> grid(0, 2, 2, 1), "5/4", "0/1", "3/4", "1/1", "-3/4", "1/1",
                "-5/4", "0/1", "-3/4", "-1/1", "3/4", "-1/1");
    }

    private static void fractions() {
        EDGE.tells("half", EdgeStepTest::all, "1/2", y -> y.tellCorner(0, 0, true));
        EDGE.tells("half below 0", EdgeStepTest::all, "-1/2", y -> y.tellCorner(0, 2, false));
        EDGE.tells("0", () -> grid(1, 1, 1, -1), "0/1", y -> y.tellCorner(0, 0, false));
        EDGE.tells("3/1", () -> grid(6, 0, 0, 1), "3/1", y -> y.tellCorner(0, 0, true));
        EDGE.tells("-3/1", () -> grid(6, 0, 0, 1), "-3/1", y -> y.tellCorner(0, 1, true));
        EDGE.tells("the widest", () -> grid(500, 0, 0, 500), "250/1", y -> y.tellCorner(0, 0, false));
        EDGE.tells("no common divisor", () -> grid(499, 0, 0, 2), "499/2", y -> y.tellCorner(0, 0, true));
        // Its corners are halfway to the sums 1, 999 and 999, -1 of the steps, and across.
        EDGE.tells("square aslant", () -> grid(500, 499, -499, 500), "999/2", y -> y.tellCorner(0, 1, false));
    }

    // ---- promise 21

    private static void signs() {
        EDGE.refused("empty text", Latticeyard::new, Edge.INDEX, y -> y.signAt(0));
        EDGE.edges("sign of three", EdgeStepTest::halfTold, Edge.INDEX, 0, 2, (y, place) -> y.signAt(place));
        EDGE.answers("first sign", EdgeStepTest::halfTold, '1', y -> y.signAt(0));
        EDGE.answers("bar", EdgeStepTest::halfTold, '/', y -> y.signAt(1));
        EDGE.answers("last sign", EdgeStepTest::halfTold, '2', y -> y.signAt(2));
        EDGE.edges("sign of one", Edge::closed, Edge.INDEX, 0, 0, (y, place) -> y.signAt(place));
        EDGE.edges("sign of 22", EdgeStepTest::longest, Edge.INDEX, 0, 21, (y, place) -> y.signAt(place));
        EDGE.edges("a shorter text behind a longer one", EdgeStepTest::shorter, Edge.INDEX, 0, 0,
                (y, place) -> y.signAt(place));
        EDGE.answers("it stands in place of it", EdgeStepTest::shorter, '2', y -> y.signAt(0));
    }

    private static Latticeyard halfTold() {
        Latticeyard yard = all();
        yard.tellCorner(0, 0, true);
        return yard;
    }

    private static Latticeyard longest() {
        Latticeyard yard = Edge.shut(-20, -20, 20, -20, 20, 20, -20, 20);
        yard.grown(1000000000);
        return yard;
    }

    private static Latticeyard shorter() {
        Latticeyard yard = longest();
        yard.coins(3, 5, 0, 0);
        yard.ways(15);
        return yard;
    }
}
