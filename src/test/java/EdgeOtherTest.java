import java.util.Arrays;

/** The edges of promises 38 to 47, of the 512 calls, and of what the terms say of seen points, leaps and hulls. */
public final class EdgeOtherTest {
    private static final Edge EDGE = new Edge();

    public static void main(String[] args) {
        seenRanges();
        seenEnds();
        leapRanges();
        leapsAtTheEdge();
        neverThere();
        termRanges();
        termEnds();
        hullRanges();
        hullEnds();
        heldSlots();
        checksums();
        soundYards();
        lastCall();
        emptyYard();
        EDGE.end();
    }

    // ---- promises 38, 39

    private static void seenRanges() {
        EDGE.edges("seen", Edge::full, Edge.ARGUMENT, 1, 40, (y, up) -> y.seen(up));
        EDGE.edges("seenAt up", Edge::full, Edge.ARGUMENT, 1, 40, (y, up) -> y.seenAt(up, 1));
        EDGE.edges("seenAt of 1", Edge::full, Edge.NO_ELEMENT, 0, 1, (y, index) -> y.seenAt(1, index));
        EDGE.edges("seenAt of 2", Edge::full, Edge.NO_ELEMENT, 0, 2, (y, index) -> y.seenAt(2, index));
        EDGE.edges("seenAt of 40", Edge::full, Edge.NO_ELEMENT, 0, 490, (y, index) -> y.seenAt(40, index));
        for (int up : new int[] {0, 41, Edge.MIN, Edge.MAX}) {
            EDGE.refused("up, no such point -1", Edge::full, Edge.ARGUMENT, y -> y.seenAt(up, -1));
            EDGE.refused("up, no such point", Edge::full, Edge.ARGUMENT, y -> y.seenAt(up, Edge.MAX));
        }
    }

    private static void seenEnds() {
        EDGE.answers("fewest", Latticeyard::new, 2, y -> y.seen(1));
        EDGE.answers("of 2", Latticeyard::new, 3, y -> y.seen(2));
        EDGE.answers("of 39", Latticeyard::new, 475, y -> y.seen(39));
        EDGE.answers("most", Latticeyard::new, 491, y -> y.seen(40));
        for (int up : new int[] {1, 2, 39, 40}) {
            EDGE.answers("y 0 comes first, of " + up, Latticeyard::new, 100, y -> y.seenAt(up, 0));
            EDGE.answers("y like x comes last, of " + up, Latticeyard::new, 101, y -> y.seenAt(up, y.seen(up) - 1));
        }
        EDGE.answers("the flattest", Latticeyard::new, 4001, y -> y.seenAt(40, 1));
        EDGE.answers("the steepest but one", Latticeyard::new, 4039, y -> y.seenAt(40, 489));
        EDGE.answers("the flattest of 39", Latticeyard::new, 3901, y -> y.seenAt(39, 1));
        EDGE.answers("halfway", Latticeyard::new, 201, y -> y.seenAt(40, 245));
        Latticeyard yard = new Latticeyard();
        int before = yard.seenAt(40, 0);
        for (int index = 1; index < 491; index++) {
            int point = yard.seenAt(40, index);
            int turn = before / 100 * (point % 100) - before % 100 * (point / 100);
            EDGE.due("neighbours " + before + " and " + point + " span the whole grid", turn, 1);
            before = point;
        }
    }

    // ---- promise 40

    private static void leapRanges() {
        EDGE.edges("leaps a", Edge::full, Edge.ARGUMENT, 0, 4, (y, a) -> y.leaps(a, 1, 3, 3));
        EDGE.edges("leaps b", Edge::full, Edge.ARGUMENT, 0, 4, (y, b) -> y.leaps(1, b, 3, 3));
        EDGE.edges("leaps x", Edge::full, Edge.ARGUMENT, -12, 12, (y, x) -> y.leaps(1, 2, x, 0));
        EDGE.edges("leaps y", Edge::full, Edge.ARGUMENT, -12, 12, (y, of) -> y.leaps(1, 2, 0, of));
        EDGE.refused("both 0", Edge::full, Edge.ARGUMENT, y -> y.leaps(0, 0, 1, 0));
        EDGE.refused("both 0, to 0, 0", Edge::full, Edge.ARGUMENT, y -> y.leaps(0, 0, 0, 0));
        EDGE.refused("both 0, out of range", Edge::full, Edge.ARGUMENT, y -> y.leaps(0, 0, 13, 0));
        EDGE.refused("x, never there", Edge::full, Edge.ARGUMENT, y -> y.leaps(2, 2, 13, 0));
        EDGE.refused("y, never there", Edge::full, Edge.ARGUMENT, y -> y.leaps(2, 2, 1, -13));
        EDGE.refused("a, never there", Edge::full, Edge.ARGUMENT, y -> y.leaps(-1, 1, 1, 0));
        EDGE.refused("b, never there", Edge::full, Edge.ARGUMENT, y -> y.leaps(1, 5, 1, 0));
    }

    private static void leapsAtTheEdge() {
        EDGE.answers("none", Latticeyard::new, 0, y -> y.leaps(4, 4, 0, 0));
        EDGE.answers("one", Latticeyard::new, 1, y -> y.leaps(4, 3, -3, -4));
        for (int x : new int[] {-12, 12}) {
            for (int of : new int[] {-12, 12}) {
                EDGE.answers("0 and 1 to a corner", Latticeyard::new, 24, y -> y.leaps(0, 1, x, of));
                EDGE.answers("1 and 0 to a corner", Latticeyard::new, 24, y -> y.leaps(1, 0, x, of));
                EDGE.answers("1 and 1 to a corner", Latticeyard::new, 12, y -> y.leaps(1, 1, x, of));
                EDGE.answers("1 and 2 to a corner", Latticeyard::new, 8, y -> y.leaps(1, 2, x, of));
                EDGE.answers("4 and 0 to a corner", Latticeyard::new, 6, y -> y.leaps(4, 0, x, of));
                EDGE.answers("4 and 4 to a corner", Latticeyard::new, 3, y -> y.leaps(4, 4, x, of));
            }
        }
        EDGE.answers("next to it", Latticeyard::new, 3, y -> y.leaps(1, 2, 0, -1));
        EDGE.answers("aslant next to it", Latticeyard::new, 2, y -> y.leaps(2, 1, -1, 1));
    }

    private static void neverThere() {
        EDGE.refused("the other colour", Edge::full, Edge.NO_ELEMENT, y -> y.leaps(1, 1, 1, 0));
        EDGE.refused("the other colour, far", Edge::full, Edge.NO_ELEMENT, y -> y.leaps(1, 3, -12, 11));
        EDGE.refused("between", Edge::full, Edge.NO_ELEMENT, y -> y.leaps(0, 4, 12, 10));
        EDGE.refused("between by twos", Edge::full, Edge.NO_ELEMENT, y -> y.leaps(2, 4, 1, 1));
        EDGE.refused("0 and 4, to 4, 2", Edge::full, Edge.NO_ELEMENT, y -> y.leaps(4, 0, 4, 2));
    }

    // ---- promises 41, 42

    private static void termRanges() {
        EDGE.edges("terms p", Edge::full, Edge.ARGUMENT, 1, 200, (y, p) -> y.terms(p, 7));
        EDGE.edges("terms q", Edge::full, Edge.ARGUMENT, 1, 200, (y, q) -> y.terms(7, q));
        EDGE.edges("termAt p", Edge::full, Edge.ARGUMENT, 1, 200, (y, p) -> y.termAt(p, 7, 0));
        EDGE.edges("termAt q", Edge::full, Edge.ARGUMENT, 1, 200, (y, q) -> y.termAt(7, q, 0));
        EDGE.edges("term of one", Edge::full, Edge.NO_ELEMENT, 0, 0, (y, index) -> y.termAt(200, 1, index));
        EDGE.edges("term of two", Edge::full, Edge.NO_ELEMENT, 0, 1, (y, index) -> y.termAt(1, 200, index));
        EDGE.edges("term of ten", Edge::full, Edge.NO_ELEMENT, 0, 9, (y, index) -> y.termAt(144, 89, index));
        EDGE.edges("term of eleven", Edge::full, Edge.NO_ELEMENT, 0, 10, (y, index) -> y.termAt(89, 144, index));
        for (int out : new int[] {0, 201, Edge.MIN, Edge.MAX}) {
            EDGE.refused("p, no such term", Edge::full, Edge.ARGUMENT, y -> y.termAt(out, 1, -1));
            EDGE.refused("q, no such term", Edge::full, Edge.ARGUMENT, y -> y.termAt(1, out, 99));
        }
    }

    private static void terms(int p, int q, int... due) {
        String what = "terms of " + p + " and " + q;
        EDGE.answers(what, Latticeyard::new, due.length, y -> y.terms(p, q));
        for (int index = 0; index < due.length; index++) {
            int at = index;
            EDGE.answers(what + ", " + index, Latticeyard::new, due[index], y -> y.termAt(p, q, at));
        }
    }

    private static void termEnds() {
        terms(1, 1, 1);
        terms(200, 1, 200);
        terms(1, 200, 0, 200);
        terms(200, 200, 1);
        terms(199, 200, 0, 1, 199);
        terms(200, 199, 1, 199);
        terms(200, 100, 2);
        terms(5, 7, 0, 1, 2, 2);
        terms(89, 144, 0, 1, 1, 1, 1, 1, 1, 1, 1, 1, 2);
        terms(144, 89, 1, 1, 1, 1, 1, 1, 1, 1, 1, 2);
    }

    // ---- promises 43, 44

    private static void hullRanges() {
        EDGE.edges("hull p", Edge::full, Edge.ARGUMENT, 1, 200, (y, p) -> y.hull(p, 7));
        EDGE.edges("hull q", Edge::full, Edge.ARGUMENT, 1, 200, (y, q) -> y.hull(7, q));
        EDGE.edges("hullAt p", Edge::full, Edge.ARGUMENT, 1, 200, (y, p) -> y.hullAt(p, 7, 0));
        EDGE.edges("hullAt q", Edge::full, Edge.ARGUMENT, 1, 200, (y, q) -> y.hullAt(7, q, 0));
        EDGE.edges("corner of two", Edge::full, Edge.NO_ELEMENT, 0, 1, (y, index) -> y.hullAt(200, 1, index));
        EDGE.edges("corner of four", Edge::full, Edge.NO_ELEMENT, 0, 3, (y, index) -> y.hullAt(5, 7, index));
        for (int out : new int[] {0, 201, Edge.MIN, Edge.MAX}) {
            EDGE.refused("p, no such corner", Edge::full, Edge.ARGUMENT, y -> y.hullAt(out, 1, -1));
            EDGE.refused("q, no such corner", Edge::full, Edge.ARGUMENT, y -> y.hullAt(1, out, 99));
        }
    }

    private static void hull(int p, int q, int... due) {
        String what = "hull above " + p + " / " + q;
        EDGE.answers(what, Latticeyard::new, due.length, y -> y.hull(p, q));
        for (int index = 0; index < due.length; index++) {
            int at = index;
            EDGE.answers(what + ", " + index, Latticeyard::new, due[index], y -> y.hullAt(p, q, at));
        }
    }

    /** Points on the line itself are not above it: the ends are at y 1 and at y p and 1. */
    private static void hullEnds() {
        hull(1, 1, 1, 1002);
        hull(200, 1, 1, 1201);
        hull(1, 200, 1, 199001, 200002);
        hull(200, 200, 1, 200201);
        hull(100, 200, 1, 1001, 199100, 200101);
        hull(199, 200, 1, 1001, 200200);
        hull(200, 199, 1, 198199, 199201);
        hull(5, 7, 1, 1001, 4003, 7006);
        hull(7, 5, 1, 2003, 4006, 5008);
        hull(2, 2, 1, 2003);
        Latticeyard yard = new Latticeyard();
        yard.hull(89, 144);
        EDGE.due("a short hull behind a long one", yard.hull(1, 1), 2);
        EDGE.due("its end", yard.hullAt(1, 1, 1), 1002);
    }

    // ---- promises 45 to 47

    private static void heldSlots() {
        EDGE.answers("none", Latticeyard::new, 0, y -> y.held());
        EDGE.answers("two", Edge::open, 2, y -> y.held());
        EDGE.answers("all", Edge::full, 8, y -> y.held());
        EDGE.answers("the first alone", Latticeyard::new, 1, y -> y.nth(0, 1, 0) * y.held());
        EDGE.answers("the last alone", Latticeyard::new, 1, y -> y.nth(7, 1, 0) * y.held());
        EDGE.answers("the same twice", Edge::open, 2, y -> y.nth(0, 1, 0) * y.held());
    }

    private static long sum(long... numbers) {
        long sum = 7;
        for (long number : numbers) {
            sum = 31 * sum + number;
        }
        return sum;
    }

    private static void checksums() {
        EDGE.answers("empty", Latticeyard::new, sum(0, 0, 0, 0, 0, 0, 0, 0), y -> y.checksum());
        EDGE.answers("open", Edge::open, sum(2, 1, 3, 0, 0, 1, 4, 6, 0, 0, 0, 0, 0, 0, 4, 0, 0, 3), y -> y.checksum());
        EDGE.answers("closed", Edge::closed, sum(2, 1, 3, 0, 0, 1, 4, 6, 0, 0, 0, 0, 3, 5, 0, 0, 4, 0, 0, 3, '2'),
                y -> y.checksum());
        long[] grids = {1, 2, 5, 1, 3, 5, 1, 4, 5, 5, 0, 1, 1, 4, 5, 5, 0, 1, 1, 0, 5, 1, 1, 5};
        long[] others = {6, 10, 15, 1, 0, 2, 0, 2, 1, 3, 1, 3, 2, 2, 2, 2, 3, 1, 3, 1, 2, 0, 2, 0, 1, 1, 1};
        String text = Check.textOf(Edge.full());
        long[] all = Arrays.copyOf(grids, grids.length + others.length + text.length());
        System.arraycopy(others, 0, all, grids.length, others.length);
        for (int place = 0; place < text.length(); place++) {
            all[grids.length + others.length + place] = text.charAt(place);
        }
        EDGE.answers("full: it goes round", Edge::full, sum(all), y -> y.checksum());
        EDGE.due("corners below 0", Edge.typed(-20, 20, 20, -20).checksum(),
                sum(0, 0, 0, 0, 0, 0, 0, 0, -20, 20, 20, -20));
        Latticeyard longest = Edge.shut(-20, -20, 20, -20, 20, 20, -20, 20);
        longest.grown(1000000000);
        longest.clear();
        long due = sum(0, 0, 0, 0, 0, 0, 0, 0);
        for (char sign : "1600000000080000000001".toCharArray()) {
            due = 31 * due + sign;
        }
        EDGE.due("the longest text", longest.checksum(), due);
    }

    private static void soundYards() {
        Edge.Scene[] scenes = {Latticeyard::new, Edge::open, Edge::full, Edge::closed};
        for (Edge.Scene scene : scenes) {
            EDGE.answers("sound", scene, 1, y -> y.isSound() ? 1 : 0);
            Latticeyard yard = scene.make();
            yard.isSound();
            EDGE.due("asking changes nothing", Edge.wholeOf(yard), Edge.wholeOf(scene.make()));
        }
        Latticeyard yard = Edge.shut(-20, -20, 20, -20, 20, 20, -20, 20);
        yard.remainder(6, 1, 0, 1000);
        yard.remainder(7, 0, 1, 1000);
        yard.meet(6, 6, 7);
        yard.spanned(7, 500, 499, -499, 500);
        yard.spanned(0, 500, 0, 0, 1);
        yard.coins(49, 50, 0, 0);
        EDGE.yes("the greatest of all", yard.isSound());
    }

    // ---- the head

    /** A yard behind 511 calls, the latest of which let slot 7 become the grid of the index 200 with b 198. */
    private static Latticeyard behindMostCalls() {
        Latticeyard yard = Edge.shut(0, 0, 1, 0, 0, 1);
        yard.grown(1);
        for (int call = 6; call <= 511; call++) {
            yard.nth(7, 200, Math.max(0, call - 313));
        }
        return yard;
    }

    /** The 512th call is promised as the first one is. */
    private static void lastCall() {
        Edge.Scene scene = EdgeOtherTest::behindMostCalls;
        EDGE.answers("512th call: form", scene, 198, y -> y.form(7, 'b'));
        EDGE.answers("512th call: undo", scene, 7, y -> y.undo());
        EDGE.answers("512th call: checksum", scene,
                sum(0, 0, 0, 0, 0, 0, 0, 1, 198, 200, 0, 0, 1, 0, 0, 1, '3'), y -> y.checksum());
        EDGE.answers("512th call: isSound", scene, 1, y -> y.isSound() ? 1 : 0);
        EDGE.answers("512th call: spanned", scene, 6, y -> y.spanned(7, 2, 1, 0, 3));
        EDGE.answers("512th call: corner", scene, 4, y -> y.corner(1, 1));
        EDGE.answers("512th call: grown", scene, 2, y -> y.grown(3));
        Latticeyard yard = behindMostCalls();
        EDGE.due("512th call: refused", Check.answerOf(() -> yard.signAt(1)), "IndexOutOfBoundsException");
    }

    /** What a yard that holds nothing has none of: all calls of the face that are refused on it. */
    private static void emptyYard() {
        Edge.Move[] noGrid = {y -> y.form(0, 'a'), y -> y.has(0, 0, 0) ? 1 : 0, y -> y.isSame(0, 0) ? 1 : 0,
            y -> y.parts(0, 0), y -> y.meet(0, 0, 0), y -> y.join(0, 0, 0), y -> y.undo(), y -> y.stepX(0, 0),
            y -> y.stepY(0, 0), y -> y.second(0), y -> y.steps(0, 0), y -> y.nearX(0, 0, 0), y -> y.nearY(0, 0, 0),
            y -> y.corners(0), y -> y.tellCorner(0, 0, true)};
        Edge.Move[] noCoinsOrCorners = {y -> y.lacks(), y -> y.lackAt(0), y -> y.canMake(0) ? 1 : 0,
            y -> y.fewest(0), y -> y.ways(0), y -> y.close(), y -> y.rim(), y -> y.within(), y -> y.where(0, 0),
            y -> y.isConvex() ? 1 : 0, y -> y.grown(1), y -> y.triangleAt(0, 0), y -> y.tiles(0) ? 1 : 0};
        for (int call = 0; call < noGrid.length; call++) {
            EDGE.refused("no grid, call " + call, Latticeyard::new, Edge.NO_ELEMENT, noGrid[call]);
        }
        for (int call = 0; call < noCoinsOrCorners.length; call++) {
            EDGE.refused("no coins, no corners, call " + call, Latticeyard::new, Edge.STATE, noCoinsOrCorners[call]);
        }
        EDGE.refused("no text", Latticeyard::new, Edge.INDEX, y -> y.signAt(0));
    }
}
