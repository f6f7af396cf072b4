import java.math.BigInteger;

/** The edges of promises 1 to 12 and of what the terms say of grids and of keeping. */
public final class EdgeGridTest {
    private static final Edge EDGE = new Edge();

    public static void main(String[] args) {
        newYard();
        spannedRanges();
        spannedForms();
        spannedInALine();
        remainderRanges();
        remainderForms();
        nthRanks();
        gridCounts();
        formLetters();
        farPoints();
        theSame();
        partsWithin();
        meetRefused();
        meetIndexes();
        joins();
        undoOnce();
        undoTen();
        undoKinds();
        EDGE.end();
    }

    // ---- promise 1

    private static void newYard() {
        for (int slot = 0; slot < 8; slot++) {
            int at = slot;
            EDGE.refused("slot " + slot + " holds none", Latticeyard::new, Edge.NO_ELEMENT, y -> y.form(at, 'a'));
        }
        EDGE.answers("none held", Latticeyard::new, 0, y -> y.held());
        EDGE.answers("first sum", Latticeyard::new, 7L * 31 * 31 * 31 * 31 * 31 * 31 * 31 * 31, y -> y.checksum());
        EDGE.refused("empty text", Latticeyard::new, Edge.INDEX, y -> y.signAt(0));
        EDGE.refused("nothing kept", Latticeyard::new, Edge.NO_ELEMENT, y -> y.undo());
        EDGE.refused("no coins", Latticeyard::new, Edge.STATE, y -> y.lacks());
        EDGE.refused("no polygon", Latticeyard::new, Edge.STATE, y -> y.rim());
        EDGE.refused("no corners", Latticeyard::new, Edge.STATE, y -> y.close());
        EDGE.answers("none taken away", Latticeyard::new, 0, y -> y.clear());
        EDGE.answers("first corner", Latticeyard::new, 1, y -> y.corner(0, 0));
        EDGE.answers("sound", Latticeyard::new, 1, y -> y.isSound() ? 1 : 0);
        Latticeyard one = Edge.full();
        EDGE.due("another yard is its own", new Latticeyard().held() + one.held(), 8);
    }

    // ---- promise 2

    private static void spannedRanges() {
        for (Edge.Scene scene : new Edge.Scene[] {Latticeyard::new, Edge::full}) {
            EDGE.slots("spanned", scene, (y, slot) -> y.spanned(slot, 2, 1, 0, 3));
            EDGE.edges("spanned x", scene, Edge.ARGUMENT, -500, 500, (y, x) -> y.spanned(3, x, 1, 0, 1));
            EDGE.edges("spanned y", scene, Edge.ARGUMENT, -500, 500, (y, number) -> y.spanned(3, 1, number, 0, 1));
            EDGE.edges("spanned u", scene, Edge.ARGUMENT, -500, 500, (y, u) -> y.spanned(3, 0, 1, u, 0));
            EDGE.edges("spanned v", scene, Edge.ARGUMENT, -500, 500, (y, v) -> y.spanned(3, 1, 0, 0, v));
            EDGE.refused("no slot, in a line", scene, Edge.INDEX, y -> y.spanned(-1, 1, 1, 1, 1));
            EDGE.refused("out of range, 0, 0", scene, Edge.ARGUMENT, y -> y.spanned(0, 0, 0, 0, -501));
            spannedOrder(scene);
        }
    }

    /** Each of the four numbers alone out of range, the steps being in a line or not. */
    private static void spannedOrder(Edge.Scene scene) {
        for (int place = 0; place < 4; place++) {
            for (int far : new int[] {-501, 501}) {
                int[] by = {2, 1, 0, 3};
                int[] line = {0, 0, 0, 0};
                by[place] = far;
                line[place] = far;
                String what = " number " + place + " is " + far;
                EDGE.refused("no slot," + what, scene, Edge.INDEX, y -> y.spanned(8, by[0], by[1], by[2], by[3]));
                EDGE.refused("in a line," + what, scene, Edge.ARGUMENT,
                        y -> y.spanned(0, line[0], line[1], line[2], line[3]));
                EDGE.refused("all three," + what, scene, Edge.INDEX,
                        y -> y.spanned(-1, line[0], line[1], line[2], line[3]));
            }
        }
    }

    private static void spannedForms() {
        Edge.Scene none = Latticeyard::new;
        EDGE.becomes("least index", none, 1, 0, "1 0 1", y -> y.spanned(0, 1, 0, 0, 1));
        EDGE.becomes("least index, of great steps", none, 1, 7, "1 0 1", y -> y.spanned(7, 500, 499, 499, 498));
        EDGE.becomes("greatest index", none, 500000, 0, "500 500 1000", y -> y.spanned(0, 500, 500, -500, 500));
        EDGE.becomes("turned", none, 500000, 0, "500 500 1000", y -> y.spanned(0, -500, -500, 500, -500));
        EDGE.becomes("upright", none, 250000, 0, "500 0 500", y -> y.spanned(0, 0, -500, -500, 0));
        EDGE.becomes("b just below c", none, 500, 0, "1 499 500", y -> y.spanned(0, 1, -1, 0, 500));
        EDGE.becomes("b just below c, turned", none, 500, 0, "1 499 500", y -> y.spanned(0, -1, 1, 0, 500));
        EDGE.becomes("b as great as c goes round", none, 500, 0, "1 0 500", y -> y.spanned(0, 1, 500, 0, -500));
        EDGE.becomes("least b below 0", none, 500, 0, "1 0 500", y -> y.spanned(0, 1, -500, 0, 500));
        EDGE.becomes("c of 1 has b 0 alone", none, 500, 0, "500 0 1", y -> y.spanned(0, 500, -499, 0, 1));
        EDGE.becomes("ahead of the other step", none, 6, 0, "2 1 3", y -> y.spanned(0, 0, 3, 2, 1));
    }

    private static void spannedInALine() {
        int[][] wrong = {{0, 0, 1, 2}, {1, 2, 0, 0}, {0, 0, 0, 0}, {1, 1, 1, 1}, {1, 1, -1, -1}, {2, 4, 3, 6},
            {-2, 4, 3, -6}, {1, 0, 2, 0}, {0, 1, 0, -2}, {500, 500, -500, -500}, {500, 250, -2, -1},
            {0, 500, 0, 500}, {500, 0, 0, 0}};
        for (int[] by : wrong) {
            String what = "in a line " + java.util.Arrays.toString(by);
            for (Edge.Scene scene : new Edge.Scene[] {Latticeyard::new, Edge::full}) {
                EDGE.refused(what, scene, Edge.UNSUPPORTED, y -> y.spanned(7, by[0], by[1], by[2], by[3]));
            }
        }
        EDGE.answers("almost in a line", Latticeyard::new, 1, y -> y.spanned(0, 500, 499, -499, -498));
        EDGE.answers("also almost", Latticeyard::new, 500, y -> y.spanned(0, 500, 500, 499, 500));
    }

    // ---- promise 3

    private static void remainderRanges() {
        for (Edge.Scene scene : new Edge.Scene[] {Latticeyard::new, Edge::full}) {
            EDGE.slots("remainder", scene, (y, slot) -> y.remainder(slot, 1, 1, 2));
            EDGE.edges("remainder p", scene, Edge.ARGUMENT, -1000, 1000, (y, p) -> y.remainder(3, p, 1, 7));
            EDGE.edges("remainder q", scene, Edge.ARGUMENT, -1000, 1000, (y, q) -> y.remainder(3, 1, q, 7));
            EDGE.edges("remainder by", scene, Edge.ARGUMENT, 1, 1000, (y, by) -> y.remainder(3, 1, 1, by));
            EDGE.refused("no slot, p", scene, Edge.INDEX, y -> y.remainder(8, 1001, 0, 1));
            EDGE.refused("no slot, q", scene, Edge.INDEX, y -> y.remainder(-1, 0, -1001, 1));
            EDGE.refused("no slot, by", scene, Edge.INDEX, y -> y.remainder(8, 0, 0, 0));
        }
    }

    private static void remainderForms() {
        Edge.Scene none = Latticeyard::new;
        EDGE.becomes("0, 0: all points", none, 1, 0, "1 0 1", y -> y.remainder(0, 0, 0, 1000));
        EDGE.becomes("by 1: all points", none, 1, 7, "1 0 1", y -> y.remainder(7, 999, -998, 1));
        EDGE.becomes("multiples of by", none, 1, 0, "1 0 1", y -> y.remainder(0, 1000, -1000, 1000));
        EDGE.becomes("greatest a", none, 1000, 0, "1000 0 1", y -> y.remainder(0, -1, 0, 1000));
        EDGE.becomes("greatest c", none, 1000, 0, "1 0 1000", y -> y.remainder(0, 0, 1, 1000));
        EDGE.becomes("greatest c of great numbers", none, 1000, 0, "1 0 1000", y -> y.remainder(0, 1000, -999, 1000));
        EDGE.becomes("greatest b", none, 1000, 0, "1 999 1000", y -> y.remainder(0, -1, -1, 1000));
        EDGE.becomes("least b above 0", none, 1000, 0, "1 1 1000", y -> y.remainder(0, 1, -1, 1000));
        EDGE.becomes("one above by", none, 999, 0, "1 998 999", y -> y.remainder(0, 1000, 1000, 999));
        EDGE.becomes("a divisor of both", none, 4, 0, "1 3 4", y -> y.remainder(0, 250, 250, 1000));
        EDGE.becomes("a divisor of the one", none, 1000, 0, "4 249 250", y -> y.remainder(0, 1, 4, 1000));
    }

    // ---- promises 4, 5

    private static void nthRanks() {
        for (Edge.Scene scene : new Edge.Scene[] {Latticeyard::new, Edge::full}) {
            EDGE.slots("nth", scene, (y, slot) -> y.nth(slot, 6, 11));
            EDGE.edges("nth index", scene, Edge.ARGUMENT, 1, 200, (y, index) -> y.nth(3, index, 0));
            EDGE.edges("nth 1", scene, Edge.NO_ELEMENT, 0, 0, (y, rank) -> y.nth(3, 1, rank));
            EDGE.edges("nth 6", scene, Edge.NO_ELEMENT, 0, 11, (y, rank) -> y.nth(3, 6, rank));
            EDGE.edges("nth 199", scene, Edge.NO_ELEMENT, 0, 199, (y, rank) -> y.nth(3, 199, rank));
            EDGE.edges("nth 200", scene, Edge.NO_ELEMENT, 0, 464, (y, rank) -> y.nth(3, 200, rank));
            EDGE.refused("no slot, index", scene, Edge.INDEX, y -> y.nth(8, 0, 0));
            EDGE.refused("no slot, rank", scene, Edge.INDEX, y -> y.nth(-1, 6, 12));
            EDGE.refused("index, rank", scene, Edge.ARGUMENT, y -> y.nth(0, 201, -1));
            EDGE.refused("index 0 has no grid", scene, Edge.ARGUMENT, y -> y.nth(0, 0, 0));
            EDGE.refused("all three", scene, Edge.INDEX, y -> y.nth(8, 201, -1));
        }
        Edge.Scene none = Latticeyard::new;
        EDGE.becomes("the only one", none, 1, 0, "1 0 1", y -> y.nth(0, 1, 0));
        EDGE.becomes("first of 200", none, 1, 7, "1 0 200", y -> y.nth(7, 200, 0));
        EDGE.becomes("last of a 1", none, 1, 0, "1 199 200", y -> y.nth(0, 200, 199));
        EDGE.becomes("first of a 2", none, 2, 0, "2 0 100", y -> y.nth(0, 200, 200));
        EDGE.becomes("last but one", none, 100, 0, "100 1 2", y -> y.nth(0, 200, 463));
        EDGE.becomes("last of 200", none, 200, 0, "200 0 1", y -> y.nth(0, 200, 464));
        EDGE.becomes("last of a prime", none, 199, 0, "199 0 1", y -> y.nth(0, 199, 199));
    }

    private static void gridCounts() {
        EDGE.edges("grids", Edge::full, Edge.ARGUMENT, 1, 200, (y, index) -> y.grids(index));
        EDGE.answers("grids 1", Latticeyard::new, 1, y -> y.grids(1));
        EDGE.answers("grids 2", Latticeyard::new, 3, y -> y.grids(2));
        EDGE.answers("grids 180", Latticeyard::new, 546, y -> y.grids(180));
        EDGE.answers("grids 199", Latticeyard::new, 200, y -> y.grids(199));
        EDGE.answers("grids 200", Latticeyard::new, 465, y -> y.grids(200));
    }

    // ---- promises 6, 7

    private static void formLetters() {
        EDGE.slots("form", Edge::full, (y, slot) -> y.form(slot, 'a'));
        char[] wrong = {'a' - 1, 'd', 'A', 'B', 'C', 0, Character.MAX_VALUE, 'a' + 256};
        for (char letter : wrong) {
            EDGE.refused("letter " + (int) letter, Edge::open, Edge.ARGUMENT, y -> y.form(0, letter));
            EDGE.refused("letter of none " + (int) letter, Edge::open, Edge.ARGUMENT, y -> y.form(1, letter));
            EDGE.refused("letter of no slot " + (int) letter, Edge::open, Edge.INDEX, y -> y.form(8, letter));
        }
        EDGE.answers("a", Edge::open, 2, y -> y.form(0, 'a'));
        EDGE.answers("b", Edge::open, 1, y -> y.form(0, 'b'));
        EDGE.answers("c", Edge::open, 3, y -> y.form(0, 'c'));
        for (char letter : new char[] {'a', 'b', 'c'}) {
            EDGE.refused("form of none " + letter, Edge::open, Edge.NO_ELEMENT, y -> y.form(7, letter));
        }
    }

    private static boolean hasSlow(Latticeyard yard, int slot, int x, int y) {
        BigInteger a = BigInteger.valueOf(yard.form(slot, 'a'));
        BigInteger c = BigInteger.valueOf(yard.form(slot, 'c'));
        BigInteger[] i = BigInteger.valueOf(x).divideAndRemainder(a);
        BigInteger rest = BigInteger.valueOf(y).subtract(i[0].multiply(BigInteger.valueOf(yard.form(slot, 'b'))));
        return i[1].signum() == 0 && rest.mod(c).signum() == 0;
    }

    private static void farPoints() {
        EDGE.slots("has", Edge::full, (y, slot) -> y.has(slot, 0, 0) ? 1 : 0);
        EDGE.refused("has of none", Edge::open, Edge.NO_ELEMENT, y -> y.has(7, 0, 0) ? 1 : 0);
        int[] far = {Edge.MIN, Edge.MIN + 1, -1, 0, 1, Edge.MAX - 1, Edge.MAX};
        int[][] steps = {{1, 0, 0, 1}, {2, 0, 0, 2}, {1, 499, 0, 500}, {500, 500, -500, 500}, {500, 499, 0, 500},
            {1, 255, 0, 256}, {3, 2, 0, 7}};
        for (int[] by : steps) {
            Latticeyard yard = new Latticeyard();
            yard.spanned(0, by[0], by[1], by[2], by[3]);
            for (int x : far) {
                for (int y : far) {
                    EDGE.due("has " + x + " " + y + " of " + Edge.formOf(yard, 0), yard.has(0, x, y) ? 1 : 0,
                            hasSlow(yard, 0, x, y) ? 1 : 0);
                }
            }
        }
        EDGE.answers("0, 0", Edge::open, 1, y -> y.has(0, 0, 0) ? 1 : 0);
        EDGE.answers("a, b", Edge::open, 1, y -> y.has(0, 2, 1) ? 1 : 0);
        EDGE.answers("0, c", Edge::open, 1, y -> y.has(0, 0, 3) ? 1 : 0);
        EDGE.answers("-a, -b", Edge::open, 1, y -> y.has(0, -2, -1) ? 1 : 0);
        EDGE.answers("a, b less 1", Edge::open, 0, y -> y.has(0, 2, 0) ? 1 : 0);
        EDGE.answers("a, b and 1", Edge::open, 0, y -> y.has(0, 2, 2) ? 1 : 0);
        EDGE.answers("a less 1", Edge::open, 0, y -> y.has(0, 1, 1) ? 1 : 0);
        EDGE.answers("0, c less 1", Edge::open, 0, y -> y.has(0, 0, 2) ? 1 : 0);
    }

    // ---- promises 8, 9

    private static Latticeyard pair(int index, int rank, int otherIndex, int otherRank) {
        Latticeyard yard = new Latticeyard();
        yard.nth(0, index, rank);
        yard.nth(7, otherIndex, otherRank);
        return yard;
    }

    private static void theSame() {
        EDGE.slots("isSame a", Edge::full, (y, slot) -> y.isSame(slot, 3) ? 1 : 0);
        EDGE.slots("isSame b", Edge::full, (y, slot) -> y.isSame(3, slot) ? 1 : 0);
        EDGE.refused("isSame none a", Edge::open, Edge.NO_ELEMENT, y -> y.isSame(1, 0) ? 1 : 0);
        EDGE.refused("isSame none b", Edge::open, Edge.NO_ELEMENT, y -> y.isSame(0, 1) ? 1 : 0);
        EDGE.refused("isSame none with itself", Edge::open, Edge.NO_ELEMENT, y -> y.isSame(1, 1) ? 1 : 0);
        EDGE.refused("isSame none, no slot", Edge::open, Edge.INDEX, y -> y.isSame(1, 8) ? 1 : 0);
        EDGE.refused("isSame no slot, none", Edge::open, Edge.INDEX, y -> y.isSame(-1, 1) ? 1 : 0);
        EDGE.answers("itself", Edge::open, 1, y -> y.isSame(3, 3) ? 1 : 0);
        EDGE.answers("like a, b, c", () -> pair(6, 4, 6, 4), 1, y -> y.isSame(0, 7) ? 1 : 0);
        EDGE.answers("another a alone", () -> pair(1, 0, 2, 2), 0, y -> y.isSame(0, 7) ? 1 : 0);
        EDGE.answers("another b alone", () -> pair(6, 4, 6, 5), 0, y -> y.isSame(0, 7) ? 1 : 0);
        EDGE.answers("another c alone", () -> pair(2, 0, 3, 0), 0, y -> y.isSame(0, 7) ? 1 : 0);
        EDGE.answers("a and c changed", () -> pair(6, 0, 6, 11), 0, y -> y.isSame(0, 7) ? 1 : 0);
    }

    private static void partsWithin() {
        EDGE.slots("parts a", Edge::open, (y, slot) -> partsOfLike(y, slot, 3));
        EDGE.slots("parts b", Edge::open, (y, slot) -> partsOfLike(y, 3, slot));
        EDGE.refused("parts none a", Edge::open, Edge.NO_ELEMENT, y -> y.parts(1, 0));
        EDGE.refused("parts none b", Edge::open, Edge.NO_ELEMENT, y -> y.parts(0, 1));
        EDGE.refused("parts none with itself", Edge::open, Edge.NO_ELEMENT, y -> y.parts(1, 1));
        EDGE.refused("parts none, no slot", Edge::open, Edge.INDEX, y -> y.parts(1, 8));
        EDGE.refused("parts no slot, none", Edge::open, Edge.INDEX, y -> y.parts(-1, 1));
        EDGE.answers("of itself", Edge::open, 1, y -> y.parts(0, 0));
        EDGE.answers("of a like one", () -> pair(6, 4, 6, 4), 1, y -> y.parts(0, 7));
        EDGE.answers("within all points", () -> pair(200, 7, 1, 0), 200, y -> y.parts(0, 7));
        EDGE.refused("all points within it", () -> pair(200, 7, 1, 0), Edge.UNSUPPORTED, y -> y.parts(7, 0));
        EDGE.refused("of one index", () -> pair(6, 4, 6, 5), Edge.UNSUPPORTED, y -> y.parts(0, 7));
        // The points with an even y are not among those with an even x, though 2 is a divisor of 4.
        EDGE.refused("of a divisor", () -> pair(4, 0, 2, 2), Edge.UNSUPPORTED, y -> y.parts(0, 7));
        EDGE.refused("by its a, b alone", () -> pair(3, 0, 4, 0), Edge.UNSUPPORTED, y -> y.parts(0, 7));
        EDGE.answers("most parts", EdgeGridTest::greatest, 1000000, y -> y.parts(2, 3));
        EDGE.answers("the greatest of itself", EdgeGridTest::greatest, 1, y -> y.parts(2, 2));
    }

    /** Slots that hold none are let become the grid of slot 3 ahead of asking. */
    private static int partsOfLike(Latticeyard yard, int a, int b) {
        for (int slot : new int[] {a, b}) {
            if (slot == 7 || slot == 0) {
                yard.nth(slot, 6, 4);
            }
        }
        return yard.parts(a, b);
    }

    // ---- promises 10, 11

    /** Slot 2 holds a grid of the greatest index, 3 all points; 0 and 1 those whose meet 2 is. */
    private static Latticeyard greatest() {
        Latticeyard yard = new Latticeyard();
        yard.remainder(0, 1, 0, 1000);
        yard.remainder(1, 0, 1, 1000);
        yard.meet(2, 0, 1);
        yard.nth(3, 1, 0);
        return yard;
    }

    /** Slots 0 and 1 hold grids of the indexes 101 and 9901, which are primes: their product is 1000001. */
    private static Latticeyard oneAbove() {
        Latticeyard yard = Edge.full();
        yard.nth(0, 101, 3);
        yard.spanned(1, 100, 1, -1, 99);
        return yard;
    }

    private static void meetRefused() {
        EDGE.slots("meet", Edge::full, (y, slot) -> y.meet(slot, 1, 2));
        EDGE.slots("meet a", Edge::full, (y, slot) -> y.meet(1, slot, 2));
        EDGE.slots("meet b", Edge::full, (y, slot) -> y.meet(1, 2, slot));
        EDGE.refused("meet none a", Edge::open, Edge.NO_ELEMENT, y -> y.meet(0, 1, 0));
        EDGE.refused("meet none b", Edge::open, Edge.NO_ELEMENT, y -> y.meet(0, 0, 1));
        EDGE.refused("meet none both", Edge::open, Edge.NO_ELEMENT, y -> y.meet(0, 1, 1));
        EDGE.refused("meet no slot, none", Edge::open, Edge.INDEX, y -> y.meet(8, 1, 1));
        EDGE.refused("meet no slot a, none", Edge::open, Edge.INDEX, y -> y.meet(0, -1, 1));
        EDGE.refused("meet no slot b, none", Edge::open, Edge.INDEX, y -> y.meet(0, 1, 8));
        EDGE.becomes("meet into none", Edge::open, 6, 7, "2 1 3", y -> y.meet(7, 0, 0));
        EDGE.refused("one above", EdgeGridTest::oneAbove, Edge.STATE, y -> y.meet(4, 0, 1));
        EDGE.refused("one above, other way", EdgeGridTest::oneAbove, Edge.STATE, y -> y.meet(0, 1, 0));
        EDGE.refused("one above, no slot", EdgeGridTest::oneAbove, Edge.INDEX, y -> y.meet(8, 0, 1));
        EDGE.refused("above, into one of them", EdgeGridTest::above, Edge.STATE, y -> y.meet(2, 2, 4));
    }

    private static Latticeyard above() {
        Latticeyard yard = greatest();
        yard.nth(4, 7, 0);
        return yard;
    }

    private static void meetIndexes() {
        EDGE.becomes("greatest", EdgeGridTest::greatest, 1000000, 5, "1000 0 1000", y -> y.meet(5, 1, 0));
        EDGE.becomes("greatest with itself", EdgeGridTest::greatest, 1000000, 5, "1000 0 1000", y -> y.meet(5, 2, 2));
        EDGE.becomes("greatest with all", EdgeGridTest::greatest, 1000000, 2, "1000 0 1000", y -> y.meet(2, 2, 3));
        EDGE.becomes("of all points", EdgeGridTest::greatest, 1, 7, "1 0 1", y -> y.meet(7, 3, 3));
        EDGE.becomes("greatest c, great b", EdgeGridTest::coprime, 1000000, 5, "1 984500 1000000", y -> y.meet(5, 0, 1));
        EDGE.becomes("greatest c, low b", EdgeGridTest::coprime, 1000000, 1, "1 125 1000000", y -> y.meet(1, 1, 2));
        EDGE.refused("index 2 to the 32nd", EdgeGridTest::wrapped, Edge.STATE, y -> y.meet(5, 0, 1));
        EDGE.refused("index 1000000 times 999999", EdgeGridTest::farAbove, Edge.STATE, y -> y.meet(6, 4, 5));
        EDGE.answers("their join", EdgeGridTest::farAbove, 1, y -> y.join(6, 4, 5));
    }

    /** Slot 1 holds a grid of the index 15625, slots 0 and 2 such of the index 64. */
    private static Latticeyard coprime() {
        Latticeyard yard = new Latticeyard();
        yard.nth(0, 64, 52);
        yard.spanned(1, 1, 125, -125, 0);
        yard.nth(2, 64, 61);
        return yard;
    }

    /** The join of both is all points, so that the meet has the index 2 to the 32nd, which an int takes for 0. */
    private static Latticeyard wrapped() {
        Latticeyard yard = Edge.full();
        yard.spanned(0, 1, 256, -256, 0);
        yard.spanned(1, 256, 1, 0, 256);
        EDGE.due("index of the one", yard.form(0, 'a') * yard.form(0, 'c'), 65536);
        EDGE.due("index of the other", yard.form(1, 'a') * yard.form(1, 'c'), 65536);
        return yard;
    }

    private static Latticeyard farAbove() {
        Latticeyard yard = greatest();
        yard.remainder(4, 1, 0, 999);
        yard.remainder(5, 0, 1, 997);
        yard.meet(4, 4, 5);
        yard.meet(5, 2, 2);
        return yard;
    }

    private static void joins() {
        EDGE.slots("join", Edge::full, (y, slot) -> y.join(slot, 1, 2));
        EDGE.slots("join a", Edge::full, (y, slot) -> y.join(1, slot, 2));
        EDGE.slots("join b", Edge::full, (y, slot) -> y.join(1, 2, slot));
        EDGE.refused("join none a", Edge::open, Edge.NO_ELEMENT, y -> y.join(0, 1, 0));
        EDGE.refused("join none b", Edge::open, Edge.NO_ELEMENT, y -> y.join(0, 0, 1));
        EDGE.refused("join none both", Edge::open, Edge.NO_ELEMENT, y -> y.join(0, 1, 1));
        EDGE.refused("join no slot, none", Edge::open, Edge.INDEX, y -> y.join(-1, 1, 1));
        EDGE.refused("join no slot a, none", Edge::open, Edge.INDEX, y -> y.join(0, 8, 1));
        EDGE.refused("join no slot b, none", Edge::open, Edge.INDEX, y -> y.join(0, 1, -1));
        EDGE.becomes("join into none", Edge::open, 6, 7, "2 1 3", y -> y.join(7, 0, 0));
        EDGE.becomes("join into one of them", () -> pair(4, 1, 6, 1), 2, 7, "1 1 2", y -> y.join(7, 0, 7));
        EDGE.becomes("greatest index", EdgeGridTest::greatest, 1000000, 0, "1000 0 1000", y -> y.join(0, 2, 2));
        EDGE.becomes("least index", EdgeGridTest::greatest, 1, 2, "1 0 1", y -> y.join(2, 2, 3));
        EDGE.becomes("greatest b", () -> pair(200, 199, 200, 199), 200, 3, "1 199 200", y -> y.join(3, 0, 7));
        EDGE.becomes("of one above", EdgeGridTest::oneAbove, 1, 3, "1 0 1", y -> y.join(3, 0, 1));
    }

    // ---- promise 12, keeping

    private static void undoOnce() {
        Latticeyard yard = new Latticeyard();
        yard.nth(7, 6, 3);
        EDGE.due("slot 7", yard.undo(), 7);
        EDGE.due("it holds none again", yard.held(), 0);
        EDGE.due("the sum too", yard.checksum(), new Latticeyard().checksum());
        EDGE.due("nothing is kept", Check.answerOf(() -> yard.undo()), "NoSuchElementException");
        yard.nth(0, 6, 3);
        yard.nth(0, 6, 3);
        EDGE.due("the same is kept too", yard.undo(), 0);
        EDGE.due("it holds the same", Edge.formOf(yard, 0), "1 3 6");
        yard.join(0, 0, 0);
        yard.meet(0, 0, 0);
        EDGE.due("a meet with itself is kept", yard.undo(), 0);
        EDGE.due("a join with itself is kept", yard.undo(), 0);
        EDGE.due("still the same", Edge.formOf(yard, 0), "1 3 6");
        EDGE.due("the first one", yard.undo(), 0);
        EDGE.due("none", yard.held(), 0);
        EDGE.due("and no more", Check.answerOf(() -> yard.undo()), "NoSuchElementException");
    }

    /** As many calls as said, each with its own b, in slot 5; answers how many can be taken back. */
    private static int undone(int calls) {
        Latticeyard yard = new Latticeyard();
        for (int call = 0; call < calls; call++) {
            yard.nth(5, 50, call);
        }
        int undone = 0;
        while (Check.answerOf(() -> yard.undo()).equals("5")) {
            undone++;
            boolean isNone = calls == undone;
            String due = isNone ? "NoSuchElementException" : Integer.toString(calls - undone - 1);
            EDGE.due(calls + " calls, " + undone + " undone", Check.answerOf(() -> yard.form(5, 'b')), due);
        }
        return undone;
    }

    private static void undoTen() {
        int[][] due = {{0, 0}, {1, 1}, {9, 9}, {10, 10}, {11, 10}, {12, 10}, {20, 10}, {21, 10}, {45, 10}};
        for (int[] calls : due) {
            EDGE.due("kept of " + calls[0], undone(calls[0]), calls[1]);
        }
        Latticeyard yard = Edge.full();
        EDGE.due("the latest", yard.undo(), 3);
        yard.nth(6, 7, 1);
        yard.nth(6, 7, 2);
        int[] slots = {6, 6, 2, 1, 0, 7, 6, 5, 4, 3};
        for (int slot : slots) {
            EDGE.due("undo among ten", yard.undo(), slot);
        }
    }

    private static void undoKinds() {
        Edge.Move[] kept = {y -> y.spanned(6, 1, 0, 0, 2), y -> y.remainder(6, 1, 1, 3), y -> y.nth(6, 4, 1),
            y -> y.meet(6, 0, 3), y -> y.join(6, 0, 3)};
        for (Edge.Move move : kept) {
            Latticeyard yard = Edge.open();
            move.run(yard);
            EDGE.due("kept", yard.undo(), 6);
            EDGE.due("all as before", Edge.wholeOf(yard), Edge.wholeOf(Edge.open()));
        }
        Edge.Move[] others = {y -> y.grids(3), y -> y.form(0, 'a'), y -> y.has(0, 1, 1) ? 1 : 0,
            y -> y.isSame(0, 3) ? 1 : 0, y -> y.parts(0, 0), y -> y.stepX(0, 1), y -> y.stepY(0, 1),
            y -> y.second(0), y -> y.steps(0, 9), y -> y.nearX(0, 1, 2), y -> y.nearY(0, 1, 2),
            y -> y.corners(0), y -> y.seen(4), y -> y.seenAt(4, 1), y -> y.leaps(1, 2, 3, 4), y -> y.terms(3, 4),
            y -> y.termAt(3, 4, 1), y -> y.hull(3, 4), y -> y.hullAt(3, 4, 1), y -> y.held(), y -> y.checksum(),
            y -> y.isSound() ? 1 : 0};
        for (int call = 0; call < others.length; call++) {
            Latticeyard yard = Edge.open();
            others[call].run(yard);
            EDGE.due("asking is not kept, " + call, Edge.wholeOf(yard), Edge.wholeOf(Edge.open()));
        }
        Latticeyard yard = Edge.full();
        for (int call = 0; call < 10; call++) {
            yard.undo();
        }
        EDGE.due("what was held ahead of the ten", Edge.formOf(yard, 0) + ", " + Edge.formOf(yard, 1), "1 0 5, 1 1 5");
        EDGE.due("the others hold none", yard.held(), 2);
    }
}
