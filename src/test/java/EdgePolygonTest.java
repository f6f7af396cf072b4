import java.util.Arrays;

/** The edges of promises 28 to 37, and of what the terms say of the polygon, ears and tiles. */
public final class EdgePolygonTest {
    private static final Edge EDGE = new Edge();

    public static void main(String[] args) {
        cornerRanges();
        cornersTyped();
        cornersOpen();
        takenAway();
        tooFew();
        noPolygons();
        barelyPolygons();
        unclosed();
        rimAndWithin();
        places();
        convex();
        grownRanges();
        grownTexts();
        triangleNumbers();
        ears();
        laterTriangles();
        tileOrder();
        tileSquares();
        EDGE.end();
    }

    private static Latticeyard typed(int... numbers) {
        return Edge.typed(numbers);
    }

    private static Latticeyard shut(int... numbers) {
        return Edge.shut(numbers);
    }

    private static Latticeyard square() {
        return shut(0, 0, 2, 0, 2, 2, 0, 2);
    }

    private static Latticeyard widest() {
        return shut(-20, -20, 20, -20, 20, 20, -20, 20);
    }

    private static Latticeyard least() {
        return shut(0, 0, 1, 0, 0, 1);
    }

    // ---- promises 28, 29

    private static void cornerRanges() {
        for (Edge.Scene scene : new Edge.Scene[] {Latticeyard::new, Edge::open, Edge::closed}) {
            EDGE.edges("corner x", scene, Edge.ARGUMENT, -20, 20, (y, x) -> y.corner(x, 0));
            EDGE.edges("corner y", scene, Edge.ARGUMENT, -20, 20, (y, of) -> y.corner(0, of));
        }
        for (int far : new int[] {-21, 21, Edge.MIN, Edge.MAX}) {
            EDGE.refused("12 are typed, x", Edge::full, Edge.ARGUMENT, y -> y.corner(far, 0));
            EDGE.refused("12 are typed, y", Edge::full, Edge.ARGUMENT, y -> y.corner(0, far));
        }
    }

    private static void cornersTyped() {
        Latticeyard yard = new Latticeyard();
        for (int number = 1; number <= 12; number++) {
            EDGE.due("corner", yard.corner(number == 1 ? -20 : number, number == 2 ? -20 : 20), number);
        }
        EDGE.due("the 13th", Check.answerOf(() -> yard.corner(0, 0)), "IllegalStateException");
        EDGE.due("the 14th", Check.answerOf(() -> yard.corner(0, 0)), "IllegalStateException");
        EDGE.refused("the 13th of a closed polygon", Edge::full, Edge.STATE, y -> y.corner(0, 0));
        EDGE.refused("the 13th of none", EdgePolygonTest::twelveLike, Edge.STATE, y -> y.corner(20, -20));
        EDGE.answers("all are taken away", EdgePolygonTest::twelveLike, 12, y -> y.clear());
        EDGE.answers("then it is the first", EdgePolygonTest::twelveLike, 1, y -> y.clear() - 12 + y.corner(0, 0));
    }

    private static Latticeyard twelveLike() {
        return typed(new int[24]);
    }

    /** A corner and clear open a polygon; refused corners do not. */
    private static void cornersOpen() {
        Latticeyard yard = square();
        EDGE.due("refused", Check.answerOf(() -> yard.corner(0, 21)), "IllegalArgumentException");
        EDGE.due("still closed", yard.rim(), 8);
        EDGE.due("the fifth", yard.corner(-2, 1), 5);
        EDGE.due("no more closed", Check.answerOf(() -> yard.rim()), "IllegalStateException");
        EDGE.due("closed with it", yard.close(), 12);
        EDGE.due("taken away", yard.clear(), 5);
        EDGE.due("not closed", Check.answerOf(() -> yard.rim()), "IllegalStateException");
        EDGE.due("none left to close", Check.answerOf(() -> yard.close()), "IllegalStateException");
        EDGE.refused("a refused close does not close", EdgePolygonTest::refusedOnce, Edge.STATE, y -> y.within());
        EDGE.answers("close twice", EdgePolygonTest::square, 8, y -> y.close());
        EDGE.answers("still closed then", EdgePolygonTest::square, 16, y -> y.close() + y.rim());
    }

    private static Latticeyard refusedOnce() {
        Latticeyard yard = square();
        yard.corner(1, 1);
        yard.corner(1, 0);
        EDGE.due("refused", Check.answerOf(() -> yard.close()), "UnsupportedOperationException");
        return yard;
    }

    private static void takenAway() {
        EDGE.answers("none", Latticeyard::new, 0, y -> y.clear());
        EDGE.answers("one", () -> typed(20, 20), 1, y -> y.clear());
        EDGE.answers("three, not closed", Edge::open, 3, y -> y.clear());
        EDGE.answers("twelve, closed", Edge::full, 12, y -> y.clear());
        EDGE.answers("twice", Edge::full, 12, y -> y.clear() + y.clear());
        Latticeyard yard = Edge.full();
        yard.clear();
        EDGE.due("nothing else goes", yard.held() + yard.lacks() + yard.undo(), 8 + Edge.full().lacks() + 3);
        EDGE.due("the text stays", Check.textOf(yard), Check.textOf(Edge.full()));
    }

    // ---- promise 30

    private static void tooFew() {
        EDGE.refused("none", Latticeyard::new, Edge.STATE, y -> y.close());
        EDGE.refused("one", () -> typed(1, 2), Edge.STATE, y -> y.close());
        EDGE.refused("two", () -> typed(1, 2, 3, 4), Edge.STATE, y -> y.close());
        EDGE.refused("two, which are like", () -> typed(1, 2, 1, 2), Edge.STATE, y -> y.close());
        EDGE.answers("three", () -> typed(0, 0, 1, 0, 0, 1), 1, y -> y.close());
        EDGE.answers("twelve", EdgePolygonTest::plus, 10, y -> y.close());
    }

    private static Latticeyard plus() {
        Latticeyard yard = new Latticeyard();
        Edge.typePlus(yard);
        return yard;
    }

    private static void noPolygons() {
        int[][] wrong = {
            {5, 5, 5, 5, 5, 5},                         // a point
            {0, 0, 1, 1, 2, 2},                         // in a line
            {0, 0, 2, 2, 1, 1},                         // in a line, the end between
            {0, 0, 0, 0, 0, 3},                         // a corner typed twice at first
            {0, 0, 0, 3, 0, 0},                         // the first corner again at the end
            {0, 0, 4, 0, 4, 0, 0, 4},                   // a corner typed twice
            {0, 0, 2, 2, 2, 0, 0, 2},                   // two sides cross
            {0, 0, 4, 0, 2, 0, 2, 3},                   // folds back
            {2, 3, 0, 0, 4, 0, 2, 0},                   // folds back at the last corner but one
            {2, 0, 2, 3, 0, 0, 4, 0},                   // folds back at the last corner
            {4, 0, 2, 0, 2, 3, 0, 0},                   // folds back at the first corner
            {0, 0, 4, 0, 4, 4, 2, 0},                   // a corner on a side
            {2, 0, 0, 4, 0, 0, 4, 0, 4, 4},             // the first corner on a side
            {0, 0, 4, 0, 2, 2, 4, 4, 0, 4, 2, 2},       // a corner on another one
            {0, 0, 4, 0, 4, 4, 4, 2, 6, 2, 6, 6},       // a side on a part of another one
            {0, 0, 6, 0, 6, 6, 3, 0, 0, 6},             // a corner on the first side
            {0, 0, 20, 0, 20, 20, 19, 0, 0, 20},        // just on the first side
            {-20, -20, 20, 20, 20, -20, -20, 20},       // the widest cross
            {0, 0, 5, 0, 5, 5, 0, 5, 0, 4, 6, 4}};      // the last side crosses
        for (int[] corners : wrong) {
            String what = "no polygon " + Arrays.toString(corners);
            EDGE.refused(what, () -> typed(corners), Edge.UNSUPPORTED, y -> y.close());
        }
        EDGE.refused("twelve that are none", EdgePolygonTest::twelveLike, Edge.UNSUPPORTED, y -> y.close());
    }

    private static void barelyPolygons() {
        EDGE.answers("a corner just off a side", () -> typed(0, 0, 4, 0, 4, 4, 2, 1), 12, y -> y.close());
        EDGE.answers("just off the first side", () -> typed(0, 0, 20, 0, 20, 20, 19, 1, 0, 20), 420, y -> y.close());
        EDGE.answers("almost a line", () -> typed(-20, -20, 20, 20, 19, 18), 40, y -> y.close());
        EDGE.answers("almost no area", () -> typed(-20, -20, 20, 19, 0, 0), 20, y -> y.close());
        EDGE.answers("a straight corner", () -> typed(0, 0, 1, 0, 2, 0, 0, 2), 4, y -> y.close());
        EDGE.answers("a straight first corner", () -> typed(1, 0, 2, 0, 0, 2, 0, 0), 4, y -> y.close());
        EDGE.answers("least area", () -> typed(0, 0, 1, 0, 0, 1), 1, y -> y.close());
        EDGE.answers("least area, with the clock", () -> typed(0, 0, 0, 1, 1, 0), 1, y -> y.close());
        EDGE.answers("greatest area", () -> typed(-20, -20, 20, -20, 20, 20, -20, 20), 3200, y -> y.close());
        EDGE.answers("greatest area, with the clock", () -> typed(-20, -20, -20, 20, 20, 20, 20, -20), 3200,
                y -> y.close());
    }

    private static void unclosed() {
        for (Edge.Scene scene : new Edge.Scene[] {Latticeyard::new, Edge::open, EdgePolygonTest::refusedOnce}) {
            EDGE.refused("rim", scene, Edge.STATE, y -> y.rim());
            EDGE.refused("within", scene, Edge.STATE, y -> y.within());
            EDGE.refused("where", scene, Edge.STATE, y -> y.where(0, 0));
            EDGE.refused("where, far", scene, Edge.STATE, y -> y.where(Edge.MIN, Edge.MAX));
            EDGE.refused("isConvex", scene, Edge.STATE, y -> y.isConvex() ? 1 : 0);
            EDGE.refused("grown", scene, Edge.STATE, y -> y.grown(1));
            EDGE.refused("grown, out of range", scene, Edge.STATE, y -> y.grown(0));
            EDGE.refused("grown, far", scene, Edge.STATE, y -> y.grown(1000000001));
            EDGE.refused("triangleAt", scene, Edge.STATE, y -> y.triangleAt(0, 0));
            EDGE.refused("triangleAt, no such triangle", scene, Edge.STATE, y -> y.triangleAt(-1, 0));
            EDGE.refused("triangleAt, no such corner", scene, Edge.STATE, y -> y.triangleAt(0, 3));
        }
    }

    // ---- promises 31 to 34

    private static void rimAndWithin() {
        EDGE.answers("least rim", EdgePolygonTest::least, 3, y -> y.rim());
        EDGE.answers("none within", EdgePolygonTest::least, 0, y -> y.within());
        EDGE.answers("greatest rim of a square", EdgePolygonTest::widest, 160, y -> y.rim());
        EDGE.answers("most within", EdgePolygonTest::widest, 1521, y -> y.within());
        EDGE.answers("just one within", () -> shut(0, 0, 2, 1, 1, 2), 1, y -> y.within());
        EDGE.answers("corners alone on the rim", () -> shut(0, 0, 2, 1, 1, 2), 3, y -> y.rim());
        EDGE.answers("aslant by 40", () -> shut(-20, -20, 20, 20, 20, 19), 42, y -> y.rim());
        EDGE.answers("a straight corner is counted once", () -> shut(0, 0, 1, 0, 2, 0, 0, 2), 6, y -> y.rim());
    }

    private static void place(String what, Edge.Scene scene, int x, int y, char due) {
        EDGE.answers(what + " " + x + ", " + y, scene, due, yard -> yard.where(x, y));
    }

    private static void places() {
        Edge.Scene two = EdgePolygonTest::square;
        int[][] rim = {{0, 0}, {1, 0}, {2, 0}, {2, 1}, {2, 2}, {1, 2}, {0, 2}, {0, 1}};
        for (int[] at : rim) {
            place("on the rim", two, at[0], at[1], 'r');
        }
        place("within", two, 1, 1, 'w');
        for (int next = -1; next <= 3; next++) {
            place("just out", two, -1, next, 'o');
            place("just out", two, 3, next, 'o');
            place("just out", two, next, -1, 'o');
            place("just out", two, next, 3, 'o');
        }
        for (Edge.Scene scene : new Edge.Scene[] {two, EdgePolygonTest::widest, EdgePolygonTest::plus2, Edge::closed}) {
            for (int far : new int[] {Edge.MIN, Edge.MIN + 1, -65536, 65536, Edge.MAX - 1, Edge.MAX}) {
                for (int near : new int[] {-20, -1, 0, 1, 2, 3, 4, 20, Edge.MIN, Edge.MAX}) {
                    place("far away", scene, far, near, 'o');
                    place("far away", scene, near, far, 'o');
                }
            }
        }
        place("the widest corner", EdgePolygonTest::widest, -20, 20, 'r');
        place("just within it", EdgePolygonTest::widest, -19, 19, 'w');
        place("just out of it", EdgePolygonTest::widest, -21, 20, 'o');
        place("in the bay", EdgePolygonTest::bay, 3, 2, 'o');
        place("on the ground of the bay", EdgePolygonTest::bay, 3, 1, 'r');
        place("in line with the ground, on its left", EdgePolygonTest::bay, 1, 1, 'w');
        place("in line with the ground, on its right", EdgePolygonTest::bay, 5, 1, 'w');
        place("in line with the top, in the bay", EdgePolygonTest::bay, 3, 4, 'o');
        place("in line with the top, left of it", EdgePolygonTest::bay, -1, 4, 'o');
        place("in line with a peak, left of it", () -> shut(0, 0, 4, 0, 2, 2), 0, 2, 'o');
        place("in line with a side corner", () -> shut(0, 0, 3, 3, 0, 6, -3, 3), 0, 3, 'w');
        place("in line with it, out", () -> shut(0, 0, 3, 3, 0, 6, -3, 3), -4, 3, 'o');
    }

    private static Latticeyard plus2() {
        Latticeyard yard = plus();
        yard.close();
        return yard;
    }

    /** A square of 6 by 4 from above which a bay of 2 by 3 is cut out. */
    private static Latticeyard bay() {
        return shut(0, 0, 6, 0, 6, 4, 4, 4, 4, 1, 2, 1, 2, 4, 0, 4);
    }

    private static void convex() {
        EDGE.answers("a triangle", EdgePolygonTest::least, 1, y -> y.isConvex() ? 1 : 0);
        EDGE.answers("with the clock", () -> shut(0, 0, 0, 2, 2, 2, 2, 0), 1, y -> y.isConvex() ? 1 : 0);
        EDGE.answers("a straight corner", () -> shut(0, 0, 20, 0, 20, 20, 10, 20, 0, 20), 1, y -> y.isConvex() ? 1 : 0);
        EDGE.answers("just bent in", () -> shut(0, 0, 20, 0, 20, 20, 10, 19, 0, 20), 0, y -> y.isConvex() ? 1 : 0);
        EDGE.answers("bent in at the first corner", () -> shut(10, 19, 0, 20, 0, 0, 20, 0, 20, 20), 0,
                y -> y.isConvex() ? 1 : 0);
        EDGE.answers("bent in at the last corner", () -> shut(0, 20, 0, 0, 20, 0, 20, 20, 10, 19), 0,
                y -> y.isConvex() ? 1 : 0);
        EDGE.answers("bent in, with the clock", () -> shut(0, 20, 10, 19, 20, 20, 20, 0, 0, 0), 0,
                y -> y.isConvex() ? 1 : 0);
        EDGE.answers("twelve corners", Edge::full, 0, y -> y.isConvex() ? 1 : 0);
    }

    // ---- promise 35

    private static void grownRanges() {
        for (Edge.Scene scene : new Edge.Scene[] {Edge::full, Edge::closed}) {
            EDGE.edges("grown", scene, Edge.ARGUMENT, 1, 1000000000, (y, times) -> y.grown(times));
        }
    }

    private static void grownTexts() {
        EDGE.tells("least", EdgePolygonTest::least, "3", y -> y.grown(1));
        EDGE.tells("twice", EdgePolygonTest::least, "6", y -> y.grown(2));
        EDGE.tells("nine signs", EdgePolygonTest::least, "999961560", y -> y.grown(44719));
        EDGE.tells("ten signs", EdgePolygonTest::least, "1000006281", y -> y.grown(44720));
        EDGE.tells("least, grown most", EdgePolygonTest::least, "500000001500000001", y -> y.grown(1000000000));
        EDGE.tells("least, grown one less", EdgePolygonTest::least, "500000000500000000", y -> y.grown(999999999));
        EDGE.tells("a long is enough no more", () -> shut(0, 0, 6, 0, 6, 6, 0, 6), "36000000012000000001",
                y -> y.grown(1000000000));
        EDGE.tells("greatest", EdgePolygonTest::widest, "1681", y -> y.grown(1));
        EDGE.tells("greatest, grown most", EdgePolygonTest::widest, "1600000000080000000001",
                y -> y.grown(1000000000));
        EDGE.tells("greatest, grown one less", EdgePolygonTest::widest, "1599999996880000001521",
                y -> y.grown(999999999));
    }

    // ---- promise 36

    private static void triangleNumbers() {
        EDGE.edges("number of three", EdgePolygonTest::least, Edge.NO_ELEMENT, 0, 0, (y, n) -> y.triangleAt(n, 0));
        EDGE.edges("number of four", EdgePolygonTest::square, Edge.NO_ELEMENT, 0, 1, (y, n) -> y.triangleAt(n, 2));
        EDGE.edges("number of twelve", Edge::full, Edge.NO_ELEMENT, 0, 9, (y, n) -> y.triangleAt(n, 1));
        EDGE.edges("which of the first", Edge::full, Edge.NO_ELEMENT, 0, 2, (y, which) -> y.triangleAt(0, which));
        EDGE.edges("which of the last", Edge::full, Edge.NO_ELEMENT, 0, 2, (y, which) -> y.triangleAt(9, which));
        EDGE.edges("which of three", Edge::closed, Edge.NO_ELEMENT, 0, 2, (y, which) -> y.triangleAt(0, which));
        EDGE.refused("neither", Edge::full, Edge.NO_ELEMENT, y -> y.triangleAt(10, 3));
        EDGE.refused("-1, 3", Edge::full, Edge.NO_ELEMENT, y -> y.triangleAt(-1, 3));
        EDGE.refused("1, -1", Edge::full, Edge.NO_ELEMENT, y -> y.triangleAt(1, -1));
    }

    private static void triangles(String what, Edge.Scene scene, int... due) {
        for (int place = 0; place < due.length; place++) {
            int number = place / 3;
            int which = place % 3;
            EDGE.answers(what + ", triangle " + number + " " + which, scene, due[place],
                    y -> y.triangleAt(number, which));
        }
    }

    private static void ears() {
        triangles("three", EdgePolygonTest::least, 0, 1, 2);
        triangles("three with the clock", () -> shut(0, 0, 0, 1, 1, 0), 0, 1, 2);
        triangles("the first corner is the ear", EdgePolygonTest::square, 3, 0, 1, 1, 2, 3);
        triangles("with the clock too", () -> shut(0, 0, 0, 2, 2, 2, 2, 0), 3, 0, 1, 1, 2, 3);
        triangles("a straight first corner is none", () -> shut(2, 0, 4, 0, 4, 4, 0, 4, 0, 0), 0, 1, 2, 4, 0, 2, 2, 3, 4);
        triangles("a corner bent in is none", () -> shut(2, 1, 0, 4, 0, 0, 8, 0), 0, 1, 2, 0, 2, 3);
        // The line from corner 3 to corner 1 goes through corner 2, which keeps corner 0 from being an ear.
        triangles("a corner on the third side", () -> shut(0, 0, 4, 0, 2, 2, 0, 4), 0, 1, 2, 0, 2, 3);
        triangles("a corner just behind it", () -> shut(0, 0, 4, 0, 3, 2, 0, 4), 3, 0, 1, 1, 2, 3);
        triangles("a corner just within", () -> shut(0, 0, 4, 0, 1, 2, 0, 4), 0, 1, 2, 0, 2, 3);
        // Corner 2 is straight at first, and corner 6 has corner 8 on its third side until 7 is cut off.
        triangles("the ear with the lowest number again", Edge::full, 11, 0, 1, 11, 1, 2, 2, 3, 4, 11, 2, 4, 11, 4, 5,
                11, 5, 6, 6, 7, 8, 11, 6, 8, 11, 8, 9, 9, 10, 11);
    }

    /** The numbers start from 0 again with each close. */
    private static void laterTriangles() {
        triangles("closed twice", EdgePolygonTest::closedTwice, 0, 1, 2, 0, 2, 3);
        triangles("with one more corner", EdgePolygonTest::oneMore, 0, 1, 2, 4, 0, 2, 2, 3, 4);
        triangles("behind twelve corners", EdgePolygonTest::behindTwelve, 0, 1, 2, 0, 2, 3);
        EDGE.edges("number behind twelve", EdgePolygonTest::behindTwelve, Edge.NO_ELEMENT, 0, 1,
                (y, number) -> y.triangleAt(number, 0));
    }

    private static Latticeyard closedTwice() {
        Latticeyard yard = shut(2, 1, 0, 4, 0, 0, 8, 0);
        yard.close();
        return yard;
    }

    private static Latticeyard oneMore() {
        Latticeyard yard = shut(2, 1, 0, 4, 0, 0, 8, 0);
        yard.corner(8, 1);
        yard.close();
        return yard;
    }

    private static Latticeyard behindTwelve() {
        Latticeyard yard = Edge.full();
        yard.clear();
        yard.corner(2, 1);
        yard.corner(0, 4);
        yard.corner(0, 0);
        yard.corner(8, 0);
        yard.close();
        return yard;
    }

    // ---- promise 37

    private static void tileOrder() {
        EDGE.slots("tiles", Edge::full, (y, slot) -> y.tiles(slot) ? 1 : 0);
        EDGE.refused("no slot, not closed", Edge::open, Edge.INDEX, y -> y.tiles(8) ? 1 : 0);
        EDGE.refused("no slot, aslant", Edge::closed, Edge.INDEX, y -> y.tiles(-1) ? 1 : 0);
        EDGE.refused("not closed", EdgePolygonTest::openSquare, Edge.STATE, y -> y.tiles(0) ? 1 : 0);
        EDGE.refused("not closed, none", EdgePolygonTest::openSquare, Edge.STATE, y -> y.tiles(7) ? 1 : 0);
        EDGE.refused("not closed, aslant", Edge::open, Edge.STATE, y -> y.tiles(0) ? 1 : 0);
        EDGE.refused("not closed, none, aslant", Edge::open, Edge.STATE, y -> y.tiles(1) ? 1 : 0);
        EDGE.refused("no corners", Latticeyard::new, Edge.STATE, y -> y.tiles(0) ? 1 : 0);
        EDGE.refused("none", EdgePolygonTest::square, Edge.NO_ELEMENT, y -> y.tiles(0) ? 1 : 0);
        EDGE.refused("none, aslant", Edge::closed, Edge.NO_ELEMENT, y -> y.tiles(7) ? 1 : 0);
        EDGE.refused("aslant", Edge::closed, Edge.UNSUPPORTED, y -> y.tiles(0) ? 1 : 0);
        EDGE.refused("aslant of another area", Edge::closed, Edge.UNSUPPORTED, y -> y.tiles(3) ? 1 : 0);
        int[][] aslant = {{0, 0, 4, 1, 4, 4, 0, 4}, {0, 0, 4, 0, 5, 4, 0, 4}, {0, 0, 4, 0, 4, 4, 0, 5},
            {1, 0, 4, 0, 4, 4, 0, 4}};
        for (int[] corners : aslant) {
            EDGE.refused("one side aslant " + Arrays.toString(corners), () -> withGrid(16, 0, corners),
                    Edge.UNSUPPORTED, y -> y.tiles(0) ? 1 : 0);
        }
    }

    private static Latticeyard openSquare() {
        Latticeyard yard = typed(0, 0, 2, 0, 2, 2, 0, 2);
        yard.nth(0, 4, 4);
        return yard;
    }

    private static Latticeyard withGrid(int index, int rank, int... corners) {
        Latticeyard yard = shut(corners);
        yard.nth(0, index, rank);
        return yard;
    }

    private static void tile(String what, int due, int index, int rank, int... corners) {
        EDGE.answers(what, () -> withGrid(index, rank, corners), due, y -> y.tiles(0) ? 1 : 0);
    }

    private static void tileSquares() {
        int[] one = {20, 20, 19, 20, 19, 19, 20, 19};
        tile("the least tile, in the corner", 1, 1, 0, one);
        tile("one square less than the index", 0, 2, 0, one);
        int[] two = {-20, -20, -18, -20, -18, -19, -20, -19};
        tile("two squares, by x", 1, 2, 2, two);
        tile("two squares, moved by a half", 1, 2, 1, two);
        tile("two squares a point apart", 0, 2, 0, two);
        tile("one square more than the index", 0, 1, 0, two);
        tile("also of 3", 0, 3, 3, two);
        int[] three = {0, 0, 2, 0, 2, 1, 1, 1, 1, 2, 0, 2};
        tile("three squares round a corner, 1 1 3", 1, 3, 1, three);
        tile("1 2 3 has them apart", 0, 3, 2, three);
        tile("3 0 1 as well", 0, 3, 3, three);
        EDGE.answers("all twelve corners", Edge::full, 1, y -> y.tiles(0) ? 1 : 0);
        EDGE.answers("by another grid", Edge::full, 0, y -> y.tiles(7) ? 1 : 0);
        EDGE.answers("with the clock", () -> withGrid(4, 4, 0, 0, 0, 2, 2, 2, 2, 0), 1, y -> y.tiles(0) ? 1 : 0);
        EDGE.answers("most squares", () -> spannedBy(40, 39, 0, 40), 1, y -> y.tiles(0) ? 1 : 0);
        EDGE.answers("most squares, two apart", () -> spannedBy(20, 1, 0, 80), 0, y -> y.tiles(0) ? 1 : 0);
        EDGE.answers("most squares, index one more", () -> spannedBy(40, 1, -1, 40), 0, y -> y.tiles(0) ? 1 : 0);
        EDGE.answers("far more", () -> spannedBy(500, 500, -500, 500), 0, y -> y.tiles(0) ? 1 : 0);
    }

    private static Latticeyard spannedBy(int x, int y, int u, int v) {
        Latticeyard yard = widest();
        yard.spanned(0, x, y, u, v);
        return yard;
    }
}
