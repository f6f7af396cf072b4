import java.math.BigInteger;
import java.util.Arrays;
import java.util.NoSuchElementException;

/** Promises 28 to 37: the polygon and its tiles, against slow ways of looking at each point. */
public final class PolygonTest {
    private static final Check CHECK = new Check();

    public static void main(String[] args) {
        typing();
        drawnPolygons(3, 2, 4000);
        drawnPolygons(4, 3, 6000);
        drawnPolygons(5, 4, 6000);
        drawnPolygons(6, 3, 8000);
        drawnPolygons(7, 20, 4000);
        noPolygons();
        writtenPolygons();
        wideStars();
        unclosed();
        growing();
        uprightTiles();
        grownUprightTiles();
        tileEdges();
        CHECK.end();
    }

    private static Latticeyard typed(int... numbers) {
        Latticeyard yard = new Latticeyard();
        for (int place = 0; place + 1 < numbers.length; place += 2) {
            yard.corner(numbers[place], numbers[place + 1]);
        }
        return yard;
    }

    private static void typing() {
        Latticeyard yard = new Latticeyard();
        Class<IllegalArgumentException> out = IllegalArgumentException.class;
        CHECK.refused("x 21", yard, out, () -> yard.corner(21, 0));
        CHECK.refused("x -21", yard, out, () -> yard.corner(-21, 0));
        CHECK.refused("y 21", yard, out, () -> yard.corner(0, 21));
        CHECK.refused("y -21", yard, out, () -> yard.corner(0, -21));
        CHECK.due("clear of none", yard.clear(), 0);
        for (int number = 1; number <= 12; number++) {
            CHECK.due("corner", yard.corner(number % 2 == 0 ? 20 : -20, number - 6), number);
        }
        CHECK.refused("13th", yard, IllegalStateException.class, () -> yard.corner(0, 0));
        CHECK.refused("13th out of range", yard, out, () -> yard.corner(0, 21));
        CHECK.due("clear", yard.clear(), 12);
        CHECK.due("clear again", yard.clear(), 0);
        CHECK.refused("close none", yard, IllegalStateException.class, () -> yard.close());
        yard.corner(0, 0);
        yard.corner(3, 0);
        CHECK.refused("close two", yard, IllegalStateException.class, () -> yard.close());
        yard.corner(0, 3);
        CHECK.due("close", yard.close(), 9);
        CHECK.due("close again", yard.close(), 9);
        CHECK.due("one more", yard.corner(-2, -1), 4);
        CHECK.refused("no more closed", yard, IllegalStateException.class, () -> yard.rim());
        CHECK.due("close with it", yard.close(), 15);
        CHECK.due("clear of a polygon", yard.clear(), 4);
        CHECK.refused("not closed", yard, IllegalStateException.class, () -> yard.rim());
        fullPolygonStaysClosed();
    }

    private static void fullPolygonStaysClosed() {
        Latticeyard yard = typed(0, 0, 1, -1, 2, -2, 4, -2, 6, -2, 7, -1, 8, 0, 8, 2, 6, 4, 4, 5, 2, 4, 0, 2);
        int area = yard.close();
        CHECK.refused("13th", yard, IllegalStateException.class, () -> yard.corner(0, 0));
        CHECK.refused("out of range", yard, IllegalArgumentException.class, () -> yard.corner(0, 30));
        CHECK.due("still closed", 2 * yard.within() + yard.rim() - 2, area);
        CHECK.yes("convex with straight corners", yard.isConvex());
    }

    // ---- slow ways

    private static long turn(long[] a, long[] b, long[] c) {
        return (b[0] - a[0]) * (c[1] - a[1]) - (b[1] - a[1]) * (c[0] - a[0]);
    }

    private static boolean isOnSide(long[] a, long[] b, long[] c) {
        return turn(a, b, c) == 0 && (c[0] - a[0]) * (c[0] - b[0]) + (c[1] - a[1]) * (c[1] - b[1]) <= 0;
    }

    /** How many places two sides have in common: 0, 1, or 2 for more. */
    private static int common(long[] a, long[] b, long[] c, long[] d) {
        long[][] ends = {a, b, c, d};
        long[][] found = new long[4][];
        int count = 0;
        for (long[] end : ends) {
            boolean isCommon = isOnSide(a, b, end) && isOnSide(c, d, end);
            for (int place = 0; place < count; place++) {
                isCommon &= !Arrays.equals(found[place], end);
            }
            if (isCommon) {
                found[count] = end;
                count++;
            }
        }
        if (count > 0) {
            return Math.min(count, 2);
        }
        boolean isCrossed = Long.signum(turn(a, b, c)) * Long.signum(turn(a, b, d)) < 0
                && Long.signum(turn(c, d, a)) * Long.signum(turn(c, d, b)) < 0;
        return isCrossed ? 1 : 0;
    }

    private static boolean isPolygon(long[][] at) {
        int n = at.length;
        for (int i = 0; i < n; i++) {
            if (Arrays.equals(at[i], at[(i + 1) % n])) {
                return false;
            }
            for (int j = 0; j < i; j++) {
                boolean isNext = j == i - 1 || (j == 0 && i == n - 1);
                if (common(at[i], at[(i + 1) % n], at[j], at[(j + 1) % n]) != (isNext ? 1 : 0)) {
                    return false;
                }
            }
        }
        return true;
    }

    private static long area(long[][] at) {
        long sum = 0;
        for (int i = 1; i + 1 < at.length; i++) {
            sum += turn(at[0], at[i], at[i + 1]);
        }
        return sum;
    }

    /** Along a ray so slightly aslant that it meets no corner, sides that it meets are counted. */
    private static char place(long[][] at, long x, long y) {
        int met = 0;
        long[] here = {x, y};
        long[] far = {x + 1000003, y + 1};
        for (int i = 0; i < at.length; i++) {
            long[] next = at[(i + 1) % at.length];
            if (isOnSide(at[i], next, here)) {
                return 'r';
            }
            boolean isCrossed = turn(here, far, at[i]) > 0 != turn(here, far, next) > 0;
            met += isCrossed && turn(at[i], next, here) > 0 == turn(at[i], next, far) < 0 ? 1 : 0;
        }
        return met % 2 == 1 ? 'w' : 'o';
    }

    // ---- compared

    private static void drawnPolygons(int n, int far, int rounds) {
        int closed = 0;
        for (int round = 0; round < rounds; round++) {
            long[][] at = new long[n][2];
            Latticeyard yard = new Latticeyard();
            for (int i = 0; i < n; i++) {
                at[i][0] = CHECK.draw(-far, far);
                at[i][1] = CHECK.draw(-far, far);
                yard.corner((int) at[i][0], (int) at[i][1]);
            }
            String what = Arrays.deepToString(at);
            if (isPolygon(at)) {
                closed++;
                CHECK.due("close " + what, yard.close(), Math.abs(area(at)));
                if (closed <= 300) {
                    compare(yard, at, what);
                }
            } else {
                CHECK.refused("close " + what, yard, UnsupportedOperationException.class, () -> yard.close());
            }
        }
        CHECK.yes("enough polygons of " + n, closed > 100);
    }

    private static void compare(Latticeyard yard, long[][] at, String what) {
        int[] counts = new int[128];
        for (int x = -21; x <= 21; x++) {
            for (int y = -21; y <= 21; y++) {
                char place = place(at, x, y);
                counts[place]++;
                CHECK.due("where " + x + " " + y + " " + what, yard.where(x, y), place);
            }
        }
        CHECK.due("rim " + what, yard.rim(), counts['r']);
        CHECK.due("within " + what, yard.within(), counts['w']);
        CHECK.due("grown 1 " + what, yard.grown(1), Check.textOf(yard).length());
        CHECK.due("grown 1 " + what, Check.textOf(yard), Integer.toString(counts['r'] + counts['w']));
        compareGrown(yard, at, 3, what);
        CHECK.due("isConvex " + what, yard.isConvex() ? 1 : 0, isConvex(at) ? 1 : 0);
        compareTriangles(yard, at, what);
        CHECK.yes("isSound " + what, yard.isSound());
    }

    private static void compareGrown(Latticeyard yard, long[][] at, int times, String what) {
        long[][] grown = new long[at.length][2];
        for (int i = 0; i < at.length; i++) {
            grown[i][0] = times * at[i][0];
            grown[i][1] = times * at[i][1];
        }
        if (Math.abs(area(at)) > 200) {
            return;
        }
        int count = 0;
        for (int x = -20 * times; x <= 20 * times; x++) {
            for (int y = -20 * times; y <= 20 * times; y++) {
                count += place(grown, x, y) != 'o' ? 1 : 0;
            }
        }
        yard.grown(times);
        CHECK.due("grown " + times + " " + what, Check.textOf(yard), Integer.toString(count));
    }

    /** No corner is on the outer side of any side. */
    private static boolean isConvex(long[][] at) {
        long way = Long.signum(area(at));
        for (int i = 0; i < at.length; i++) {
            for (long[] corner : at) {
                if (way * turn(at[i], at[(i + 1) % at.length], corner) < 0) {
                    return false;
                }
            }
        }
        return true;
    }

    private static void compareTriangles(Latticeyard yard, long[][] at, String what) {
        java.util.List<Integer> left = new java.util.ArrayList<>();
        for (int i = 0; i < at.length; i++) {
            left.add(i);
        }
        for (int number = 0; number < at.length - 3; number++) {
            int ear = 0;
            while (!isEar(at, left, ear)) {
                ear++;
            }
            int n = left.size();
            compareTriangle(yard, number, left.get((ear + n - 1) % n), left.get(ear), left.get((ear + 1) % n), what);
            left.remove(ear);
        }
        compareTriangle(yard, at.length - 3, left.get(0), left.get(1), left.get(2), what);
        int over = at.length - 2;
        CHECK.refused("triangle over", yard, NoSuchElementException.class, () -> yard.triangleAt(over, 0));
    }

    private static void compareTriangle(Latticeyard yard, int number, int p, int q, int r, String what) {
        CHECK.due("triangle " + number + " 0 " + what, yard.triangleAt(number, 0), p);
        CHECK.due("triangle " + number + " 1 " + what, yard.triangleAt(number, 1), q);
        CHECK.due("triangle " + number + " 2 " + what, yard.triangleAt(number, 2), r);
    }

    private static boolean isEar(long[][] at, java.util.List<Integer> left, int place) {
        int n = left.size();
        long[] p = at[left.get((place + n - 1) % n)];
        long[] q = at[left.get(place)];
        long[] r = at[left.get((place + 1) % n)];
        if (Long.signum(turn(p, q, r)) != Long.signum(area(at))) {
            return false;
        }
        for (int other : left) {
            long[] c = at[other];
            // In or on a triangle the three parts are as great as the whole.
            long parts = Math.abs(turn(p, q, c)) + Math.abs(turn(q, r, c)) + Math.abs(turn(r, p, c));
            if (c != p && c != q && c != r && parts == Math.abs(turn(p, q, r))) {
                return false;
            }
        }
        return true;
    }

    private static void noPolygons() {
        int[][] wrong = {
            {0, 0, 0, 0, 0, 0},                     // one point thrice
            {0, 0, 0, 0, 3, 0},                     // a side that is a point
            {0, 0, 1, 1, 2, 2},                     // in a line
            {0, 0, 4, 0, 2, 0, 2, 3},               // folds back
            {0, 0, 2, 2, 2, 0, 0, 2},               // crosses itself
            {0, 0, 4, 0, 4, 4, 2, 0},               // a corner on a side
            {0, 0, 4, 0, 2, 2, 4, 4, 0, 4, 2, 2},   // a corner twice
            {0, 0, 4, 0, 4, 4, 4, 2, 6, 2, 6, 6},   // a side along another one
            {0, 0, 4, 0, 4, 4, 0, 4, 0, 0},         // the first corner again at the end
            {0, 0, 4, 0, 4, 0, 4, 4},               // a corner typed twice
            {0, 0, 4, 0, 4, 4, 4, 0},               // there and back
            {0, 0, 0, 0, 0, 0, 0, 0},               // one point four times
            {0, 0, 6, 0, 6, 6, 3, 0, 0, 6}};        // a corner on the first side
        for (int[] corners : wrong) {
            Latticeyard yard = typed(corners);
            CHECK.refused("close " + Arrays.toString(corners), yard, UnsupportedOperationException.class,
                    () -> yard.close());
            CHECK.refused("not closed", yard, IllegalStateException.class, () -> yard.within());
        }
    }

    private static void writtenPolygons() {
        Latticeyard square = typed(0, 0, 0, 2, 2, 2, 2, 0);
        CHECK.due("with the clock", square.close(), 8);
        CHECK.due("within", square.within(), 1);
        CHECK.due("rim", square.rim(), 8);
        CHECK.yes("convex", square.isConvex());
        compareTriangle(square, 0, 3, 0, 1, "square");
        compareTriangle(square, 1, 1, 2, 3, "square");
        for (int number : new int[] {-1, 2, Integer.MIN_VALUE, Integer.MAX_VALUE}) {
            CHECK.refused("triangle " + number, square, NoSuchElementException.class,
                    () -> square.triangleAt(number, 0));
            int which = number == 2 ? 3 : number;
            CHECK.refused("which " + which, square, NoSuchElementException.class,
                    () -> square.triangleAt(0, which));
        }
        int least = Integer.MIN_VALUE;
        int most = Integer.MAX_VALUE;
        CHECK.due("far left", square.where(least, 1), 'o');
        CHECK.due("far right", square.where(most, 1), 'o');
        CHECK.due("far down", square.where(1, least), 'o');
        CHECK.due("far away", square.where(least, most), 'o');
        Latticeyard straight = typed(0, 0, 2, 0, 4, 0, 4, 4, 0, 4);
        CHECK.due("a straight corner", straight.close(), 32);
        CHECK.yes("is convex too", straight.isConvex());
        // Corner 1 turns once corner 0 is cut off.
        compareTriangle(straight, 0, 4, 0, 1, "straight");
        compareTriangle(straight, 1, 4, 1, 2, "straight");
        compareTriangle(straight, 2, 2, 3, 4, "straight");
        Latticeyard apex = typed(4, 0, 0, 4, 0, 0, 2, 0);
        apex.close();
        compareTriangle(apex, 0, 3, 0, 1, "apex");
        compareTriangle(apex, 1, 1, 2, 3, "apex");
        apex.clear();
        for (int[] at : new int[][] {{0, 0}, {2, 0}, {2, 2}, {0, 2}}) {
            apex.corner(at[0], at[1]);
        }
        CHECK.due("another one in the same yard", apex.close(), 8);
        compareTriangle(apex, 0, 3, 0, 1, "another one");
        compareTriangle(apex, 1, 1, 2, 3, "another one");
        CHECK.refused("no more triangles", apex, NoSuchElementException.class, () -> apex.triangleAt(2, 0));
        Latticeyard widest = typed(-20, -20, 20, -20, 20, 20, -20, 20);
        CHECK.due("widest", widest.close(), 3200);
        CHECK.due("widest rim", widest.rim(), 160);
        CHECK.due("widest within", widest.within(), 39 * 39);
        CHECK.yes("widest is sound", widest.isSound());
    }

    /** Polygons of eight to twelve corners, round about 0, 0. */
    private static void wideStars() {
        int closed = 0;
        for (int round = 0; round < 600; round++) {
            int n = 8 + round % 5;
            long[][] at = new long[n][2];
            int[] numbers = new int[2 * n];
            boolean isBack = round % 2 == 0;
            int from = CHECK.draw(0, n - 1);
            for (int i = 0; i < n; i++) {
                int step = (isBack ? n - i : i) + from;
                double angle = 2 * Math.PI * step / n;
                double far = CHECK.draw(1, 20);
                at[i][0] = Math.round(far * Math.cos(angle));
                at[i][1] = Math.round(far * Math.sin(angle));
                numbers[2 * i] = (int) at[i][0];
                numbers[2 * i + 1] = (int) at[i][1];
            }
            Latticeyard yard = typed(numbers);
            String what = Arrays.deepToString(at);
            if (isPolygon(at)) {
                closed++;
                CHECK.due("close " + what, yard.close(), Math.abs(area(at)));
                compare(yard, at, what);
            } else {
                CHECK.refused("close " + what, yard, UnsupportedOperationException.class, () -> yard.close());
            }
        }
        CHECK.yes("enough stars", closed > 100);
    }

    private static void unclosed() {
        Latticeyard yard = typed(0, 0, 4, 0, 0, 4);
        Class<IllegalStateException> open = IllegalStateException.class;
        CHECK.refused("rim", yard, open, () -> yard.rim());
        CHECK.refused("within", yard, open, () -> yard.within());
        CHECK.refused("where", yard, open, () -> yard.where(1, 1));
        CHECK.refused("isConvex", yard, open, () -> yard.isConvex() ? 1 : 0);
        CHECK.refused("grown", yard, open, () -> yard.grown(0));
        CHECK.refused("triangleAt", yard, open, () -> yard.triangleAt(9, 9));
        CHECK.refused("tiles", yard, open, () -> yard.tiles(0) ? 1 : 0);
        CHECK.refused("tiles slot", yard, IndexOutOfBoundsException.class, () -> yard.tiles(8) ? 1 : 0);
        yard.close();
        CHECK.refused("grown 0", yard, IllegalArgumentException.class, () -> yard.grown(0));
        CHECK.refused("grown over", yard, IllegalArgumentException.class, () -> yard.grown(1000000001));
        CHECK.refused("grown least", yard, IllegalArgumentException.class, () -> yard.grown(Integer.MIN_VALUE));
    }

    private static void growing() {
        int[][] all = {{0, 0, 1, 0, 0, 1}, {-20, -20, 20, -20, 20, 20, -20, 20}, {0, 0, 3, 1, 1, 2},
            {-20, -20, 20, -19, 19, 20}, {0, 0, 7, 0, 0, 3}};
        int[] times = {1, 2, 3, 10, 999, 1000, 31622, 31623, 44721, 44722, 65536, 999999, 123456789,
            500000000, 999999999, 1000000000};
        for (int[] corners : all) {
            Latticeyard yard = typed(corners);
            BigInteger area = BigInteger.valueOf(yard.close());
            BigInteger rim = BigInteger.valueOf(yard.rim());
            for (int t : times) {
                BigInteger by = BigInteger.valueOf(t);
                BigInteger due = area.multiply(by).add(rim).multiply(by).shiftRight(1).add(BigInteger.ONE);
                String what = "grown " + t + " of " + Arrays.toString(corners);
                CHECK.due(what, yard.grown(t), due.toString().length());
                CHECK.due(what, Check.textOf(yard), due.toString());
            }
        }
        Latticeyard yard = typed(-20, -20, 20, -20, 20, 20, -20, 20);
        yard.close();
        CHECK.due("the longest text", yard.grown(1000000000), 22);
    }

    // ---- tiles

    private static boolean slowTiles(Latticeyard yard, long[][] at, int index) {
        java.util.List<int[]> squares = new java.util.ArrayList<>();
        long[][] twice = new long[at.length][2];
        for (int i = 0; i < at.length; i++) {
            twice[i][0] = 2 * at[i][0];
            twice[i][1] = 2 * at[i][1];
        }
        for (int x = -20; x < 20; x++) {
            for (int y = -20; y < 20; y++) {
                if (place(twice, 2 * x + 1, 2 * y + 1) == 'w') {
                    squares.add(new int[] {x, y});
                }
            }
        }
        if (squares.size() != index) {
            return false;
        }
        for (int[] one : squares) {
            for (int[] other : squares) {
                if (one != other && yard.has(0, one[0] - other[0], one[1] - other[1])) {
                    return false;
                }
            }
        }
        return true;
    }

    private static void compareTiles(int[] numbers, int factor) {
        Latticeyard yard = typed(numbers);
        long[][] at = new long[numbers.length / 2][2];
        for (int i = 0; i < at.length; i++) {
            at[i][0] = numbers[2 * i];
            at[i][1] = numbers[2 * i + 1];
        }
        int area = yard.close() / 2;
        for (int index = Math.max(1, area - 1); index <= Math.min(200, area + 1); index++) {
            int all = yard.grids(index);
            for (int rank = 0; rank < all; rank += factor) {
                yard.nth(0, index, rank);
                boolean due = slowTiles(yard, at, index);
                CHECK.due("tiles " + Arrays.toString(numbers) + " by " + index + " " + rank,
                        yard.tiles(0) ? 1 : 0, due ? 1 : 0);
            }
        }
        yard.nth(0, 1, 0);
        CHECK.due("tiles by all points", yard.tiles(0) ? 1 : 0, area == 1 ? 1 : 0);
    }

    private static void uprightTiles() {
        compareTiles(new int[] {0, 0, 1, 0, 1, 1, 0, 1}, 1);
        compareTiles(new int[] {0, 0, 2, 0, 2, 1, 1, 1, 1, 2, 0, 2}, 1);
        compareTiles(new int[] {-3, -2, -1, -2, -1, 1, 2, 1, 2, 3, -3, 3}, 1);
        compareTiles(new int[] {0, 0, 3, 0, 3, 1, 2, 1, 2, 2, 1, 2, 1, 1, 0, 1}, 1);
        compareTiles(new int[] {0, 0, 3, 0, 3, 3, 2, 3, 2, 1, 1, 1, 1, 3, 0, 3}, 1);
        compareTiles(new int[] {0, 0, 0, 4, 4, 4, 4, 0}, 1);
        compareTiles(new int[] {-20, 19, -20, 20, 20, 20, 20, 19}, 1);
        compareTiles(new int[] {19, -20, 20, -20, 20, 20, 19, 20}, 1);
        compareTiles(new int[] {0, 0, 1, 0, 2, 0, 2, 2, 0, 2, 0, 1}, 1);
    }

    private static void grownUprightTiles() {
        compareTiles(new int[] {-4, -5, 6, -5, 6, 2, 1, 2, 1, 6, -4, 6}, 5);
        Latticeyard yard = typed(-20, -20, 20, -20, 20, 20, -20, 20);
        yard.close();
        yard.spanned(0, 40, 0, 0, 40);
        CHECK.yes("the widest square", yard.tiles(0));
        yard.spanned(0, 40, 17, 0, 40);
        CHECK.yes("the widest square, moved", yard.tiles(0));
        yard.spanned(0, 20, 0, 0, 80);
        CHECK.yes("not the widest square", !yard.tiles(0));
        yard.spanned(0, 400, 0, 0, 400);
        CHECK.yes("too few squares", !yard.tiles(0));
        compareTiles(new int[] {0, 0, 20, 0, 20, 10, 0, 10}, 1);
        // A square of the one side is put to the other side, in its row or in another one.
        compareTiles(new int[] {-1, 9, 0, 9, 0, 0, 20, 0, 20, 9, 19, 9, 19, 10, -1, 10}, 1);
        compareTiles(new int[] {-1, 0, 20, 0, 20, 9, 19, 9, 19, 10, 0, 10, 0, 1, -1, 1}, 1);
        Latticeyard moved = typed(-1, 9, 0, 9, 0, 0, 20, 0, 20, 9, 19, 9, 19, 10, -1, 10);
        moved.close();
        moved.spanned(0, 20, 0, 0, 10);
        CHECK.yes("in its row", moved.tiles(0));
        Latticeyard lost = typed(-1, 0, 20, 0, 20, 9, 19, 9, 19, 10, 0, 10, 0, 1, -1, 1);
        lost.close();
        lost.spanned(0, 20, 0, 0, 10);
        CHECK.yes("in another one", !lost.tiles(0));
    }

    private static void tileEdges() {
        Latticeyard yard = typed(0, 0, 4, 0, 0, 4);
        yard.close();
        yard.nth(0, 8, 0);
        Class<IndexOutOfBoundsException> noSlot = IndexOutOfBoundsException.class;
        CHECK.refused("slot 8", yard, noSlot, () -> yard.tiles(8) ? 1 : 0);
        CHECK.refused("slot -1", yard, noSlot, () -> yard.tiles(-1) ? 1 : 0);
        CHECK.refused("none", yard, NoSuchElementException.class, () -> yard.tiles(1) ? 1 : 0);
        CHECK.refused("aslant", yard, UnsupportedOperationException.class, () -> yard.tiles(0) ? 1 : 0);
        Latticeyard first = typed(0, 0, 4, 3, 0, 3);
        first.close();
        first.nth(0, 6, 0);
        CHECK.refused("the first side alone aslant", first, UnsupportedOperationException.class,
                () -> first.tiles(0) ? 1 : 0);
        Latticeyard last = typed(0, 0, 4, 0, 4, 4, 1, 4);
        last.close();
        last.nth(0, 16, 0);
        CHECK.refused("the last side aslant", last, UnsupportedOperationException.class,
                () -> last.tiles(0) ? 1 : 0);
    }
}
