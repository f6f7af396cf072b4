import java.math.BigInteger;
import java.util.ArrayList;
import java.util.List;
import java.util.NoSuchElementException;

/** Promises 19 to 21: cells and the text, against all meetings of two bisectors. */
public final class CellTest {
    private static final Check CHECK = new Check();

    public static void main(String[] args) {
        listedGrids();
        spannedGrids();
        thinGrids();
        writtenCells();
        edges();
        CHECK.end();
    }

    /** The points of a grid round about 0, 0, from two least steps that span it. */
    private static List<long[]> points(Latticeyard yard, int slot) {
        int aside = yard.second(slot);
        List<long[]> points = new ArrayList<>();
        for (int i = -3; i <= 3; i++) {
            for (int j = -3; j <= 3; j++) {
                if (i != 0 || j != 0) {
                    points.add(new long[] {
                        (long) i * yard.stepX(slot, 0) + (long) j * yard.stepX(slot, aside),
                        (long) i * yard.stepY(slot, 0) + (long) j * yard.stepY(slot, aside)});
                }
            }
        }
        return points;
    }

    /** All places, as x and y over a number, that are on two bisectors and beyond none. */
    private static List<long[]> slowCorners(List<long[]> points) {
        List<long[]> corners = new ArrayList<>();
        for (long[] p : points) {
            for (long[] q : points) {
                long turn = p[0] * q[1] - p[1] * q[0];
                if (turn <= 0) {
                    continue;
                }
                long one = p[0] * p[0] + p[1] * p[1];
                long other = q[0] * q[0] + q[1] * q[1];
                long[] place = {one * q[1] - other * p[1], other * p[0] - one * q[0], 2 * turn};
                if (isInCell(place, points) && !isIn(place, corners)) {
                    corners.add(place);
                }
            }
        }
        return corners;
    }

    private static boolean isInCell(long[] place, List<long[]> points) {
        for (long[] r : points) {
            if (2 * (place[0] * r[0] + place[1] * r[1]) > (r[0] * r[0] + r[1] * r[1]) * place[2]) {
                return false;
            }
        }
        return true;
    }

    private static boolean isIn(long[] place, List<long[]> places) {
        for (long[] other : places) {
            if (place[0] * other[2] == other[0] * place[2] && place[1] * other[2] == other[1] * place[2]) {
                return true;
            }
        }
        return false;
    }

    private static int compare(long[] p, long[] q, int which) {
        return BigInteger.valueOf(p[which]).multiply(BigInteger.valueOf(q[2]))
                .compareTo(BigInteger.valueOf(q[which]).multiply(BigInteger.valueOf(p[2])));
    }

    /** Turns the list so that it starts as the document says, going on by rising angle. */
    private static List<long[]> inOrder(List<long[]> corners) {
        corners.sort((p, q) -> Double.compare(Math.atan2(p[1], p[0]), Math.atan2(q[1], q[0])));
        int first = 0;
        for (int place = 1; place < corners.size(); place++) {
            int byX = compare(corners.get(place), corners.get(first), 0);
            if (byX > 0 || (byX == 0 && compare(corners.get(place), corners.get(first), 1) > 0)) {
                first = place;
            }
        }
        List<long[]> turned = new ArrayList<>(corners.subList(first, corners.size()));
        turned.addAll(corners.subList(0, first));
        return turned;
    }

    private static String fraction(long over, long under) {
        BigInteger shared = BigInteger.valueOf(over).gcd(BigInteger.valueOf(under));
        return BigInteger.valueOf(over).divide(shared) + "/" + BigInteger.valueOf(under).divide(shared);
    }

    private static void tell(Latticeyard yard, int number, boolean isX, String due) {
        String what = "tellCorner " + number + (isX ? " x of " : " y of ")
                + yard.form(0, 'a') + " " + yard.form(0, 'b') + " " + yard.form(0, 'c');
        CHECK.due(what + ", signs", yard.tellCorner(0, number, isX), due.length());
        CHECK.due(what, Check.textOf(yard), due);
    }

    private static void compareCell(Latticeyard yard) {
        List<long[]> corners = inOrder(slowCorners(points(yard, 0)));
        CHECK.due("corners", yard.corners(0), corners.size());
        for (int number = 0; number < corners.size(); number++) {
            long[] corner = corners.get(number);
            tell(yard, number, true, fraction(corner[0], corner[2]));
            tell(yard, number, false, fraction(corner[1], corner[2]));
        }
        int over = corners.size();
        CHECK.refused("corner over", yard, NoSuchElementException.class, () -> yard.tellCorner(0, over, true));
    }

    private static void listedGrids() {
        Latticeyard yard = new Latticeyard();
        for (int index = 1; index <= 16; index++) {
            for (int rank = 0; rank < yard.grids(index); rank++) {
                yard.nth(0, index, rank);
                compareCell(yard);
            }
        }
    }

    private static void spannedGrids() {
        Latticeyard yard = new Latticeyard();
        for (int round = 0; round < 400; round++) {
            int far = round < 300 ? 40 : 500;
            int x = CHECK.draw(-far, far);
            int y = CHECK.draw(-far, far);
            int u = CHECK.draw(-far, far);
            int v = CHECK.draw(-far, far);
            if (x * v != y * u) {
                yard.spanned(0, x, y, u, v);
                if (yard.second(0) >= 0) {
                    compareCell(yard);
                }
            }
        }
        yard.spanned(0, 500, 499, -499, 500);
        compareCell(yard);
        yard.spanned(0, 2, 1, 1, 2);
        compareCell(yard);
    }

    /** Grids whose second step is none of the first twenty. */
    private static void thinGrids() {
        Latticeyard yard = new Latticeyard();
        yard.remainder(1, 1, 0, 1000);
        yard.remainder(2, 1, 0, 999);
        yard.meet(0, 1, 2);
        CHECK.due("thin", yard.corners(0), 4);
        tell(yard, 0, true, "499500/1");
        tell(yard, 0, false, "1/2");
        tell(yard, 1, true, "-499500/1");
        tell(yard, 1, false, "1/2");
        tell(yard, 2, false, "-1/2");
        tell(yard, 3, true, "499500/1");
        tell(yard, 3, false, "-1/2");
        // The points x, x + 999000 * j: least steps 1, 1 and 499500, -499500.
        yard.remainder(1, 1, -1, 1000);
        yard.remainder(2, 1, -1, 999);
        CHECK.due("aslant", yard.meet(0, 1, 2), 999000);
        CHECK.due("aslant corners", yard.corners(0), 4);
        tell(yard, 0, true, "499501/2");
        tell(yard, 0, false, "-499499/2");
        tell(yard, 1, true, "-499499/2");
        tell(yard, 1, false, "499501/2");
        tell(yard, 2, true, "-499501/2");
        tell(yard, 2, false, "499499/2");
        tell(yard, 3, true, "499499/2");
        thinSix(yard);
    }

    /** The points x, x + 996003 * j: least steps 1, 1 and 498001, -498002, at no right angle. */
    private static void thinSix(Latticeyard yard) {
        yard.remainder(1, 1, -1, 997);
        yard.remainder(2, 1, -1, 999);
        CHECK.due("aslant six", yard.meet(0, 1, 2), 996003);
        CHECK.due("aslant six corners", yard.corners(0), 6);
        // Each corner is the middle of a circle through 0, 0 and two more points, with none in it.
        for (int number = 0; number < 6; number++) {
            yard.tellCorner(0, number, true);
            long[] x = parts(Check.textOf(yard));
            yard.tellCorner(0, number, false);
            long[] y = parts(Check.textOf(yard));
            CHECK.due("touching points of " + number, touching(x, y), 2);
        }
    }

    private static long[] parts(String fraction) {
        int bar = fraction.indexOf('/');
        return new long[] {Long.parseLong(fraction.substring(0, bar)), Long.parseLong(fraction.substring(bar + 1))};
    }

    /** How many points of the aslant grid are as near as 0, 0 is, or -1 if one is nearer. */
    private static int touching(long[] x, long[] y) {
        int count = 0;
        for (int j = -2; j <= 2; j++) {
            for (int i = -4; i <= 4; i++) {
                BigInteger p = BigInteger.valueOf(i + j * 498001L);
                BigInteger q = BigInteger.valueOf(i - j * 498002L);
                // 2 * z * r against r * r, all times both numbers that are below the bars
                BigInteger left = BigInteger.valueOf(2 * x[0]).multiply(p).multiply(BigInteger.valueOf(y[1]))
                        .add(BigInteger.valueOf(2 * y[0]).multiply(q).multiply(BigInteger.valueOf(x[1])));
                BigInteger right = p.multiply(p).add(q.multiply(q)).multiply(BigInteger.valueOf(x[1] * y[1]));
                if ((i != 0 || j != 0) && left.compareTo(right) > 0) {
                    return -1;
                }
                count += (i != 0 || j != 0) && left.equals(right) ? 1 : 0;
            }
        }
        return count;
    }

    private static void writtenCells() {
        Latticeyard yard = new Latticeyard();
        yard.spanned(0, 2, 0, 0, 6);
        CHECK.due("upright", yard.corners(0), 4);
        tell(yard, 0, true, "1/1");
        tell(yard, 0, false, "3/1");
        tell(yard, 1, true, "-1/1");
        tell(yard, 2, false, "-3/1");
        tell(yard, 3, true, "1/1");
        yard.spanned(0, 1, 1, 1, -1);
        CHECK.due("on the point", yard.corners(0), 4);
        tell(yard, 0, true, "1/1");
        tell(yard, 0, false, "0/1");
        tell(yard, 1, true, "0/1");
        tell(yard, 1, false, "1/1");
        CHECK.due("first sign", yard.signAt(0), '1');
        CHECK.due("bar", yard.signAt(1), '/');
        CHECK.due("last sign", yard.signAt(2), '1');
        CHECK.refused("behind the text", yard, IndexOutOfBoundsException.class, () -> yard.signAt(3));
        tell(yard, 2, true, "-1/1");
        CHECK.due("sign ahead", yard.signAt(0), '-');
        tell(yard, 3, false, "-1/1");
        CHECK.due("longer", yard.signAt(3), '1');
        tell(yard, 3, true, "0/1");
        CHECK.refused("shorter again", yard, IndexOutOfBoundsException.class, () -> yard.signAt(3));
    }

    private static void edges() {
        Latticeyard yard = new Latticeyard();
        CHECK.refused("empty text", yard, IndexOutOfBoundsException.class, () -> yard.signAt(0));
        yard.nth(0, 1, 0);
        yard.tellCorner(0, 2, true);
        Class<IndexOutOfBoundsException> noSlot = IndexOutOfBoundsException.class;
        Class<NoSuchElementException> none = NoSuchElementException.class;
        CHECK.refused("corners slot", yard, noSlot, () -> yard.corners(8));
        CHECK.refused("corners slot -1", yard, noSlot, () -> yard.corners(-1));
        CHECK.refused("corners none", yard, none, () -> yard.corners(1));
        CHECK.refused("tellCorner slot", yard, noSlot, () -> yard.tellCorner(8, 9, true));
        CHECK.refused("tellCorner slot -1", yard, noSlot, () -> yard.tellCorner(-1, 0, true));
        CHECK.refused("tellCorner none", yard, none, () -> yard.tellCorner(1, 0, true));
        CHECK.refused("tellCorner -1", yard, none, () -> yard.tellCorner(0, -1, true));
        CHECK.refused("tellCorner 4", yard, none, () -> yard.tellCorner(0, 4, false));
        CHECK.refused("tellCorner least", yard, none, () -> yard.tellCorner(0, Integer.MIN_VALUE, false));
        CHECK.refused("signAt -1", yard, noSlot, () -> yard.signAt(-1));
        CHECK.refused("signAt greatest", yard, noSlot, () -> yard.signAt(Integer.MAX_VALUE));
        CHECK.refused("signAt least", yard, noSlot, () -> yard.signAt(Integer.MIN_VALUE));
        yard.spanned(0, 2, 1, 0, 3);
        CHECK.refused("tellCorner 6", yard, none, () -> yard.tellCorner(0, 6, false));
    }
}
