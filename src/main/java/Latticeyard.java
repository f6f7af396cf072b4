import java.util.Arrays;
import java.util.NoSuchElementException;

/**
 * A yard of grids in the plane: shortest steps, cells, coins, polygons with corners on the grid,
 * points that are seen, leaps and hulls. What each call of the face promises stands in DOC.md.
 *
 * <p>Every index, divisor and reference is looked at before it is used, so that nothing is ever
 * thrown but by a throw statement. Rows are made once, with the yard, and used again by each call.
 */
public final class Latticeyard {
    private static final int SLOTS = 8;
    private static final int KEPT_CALLS = 10;
    private static final int GREATEST_INDEX = 1000000;
    private static final int GREATEST_LISTED_INDEX = 200;
    private static final int STEP_ROW = 20;
    private static final int GREATEST_LENGTH = 2500;
    private static final int GREATEST_SUM = 2500;
    private static final int MOST_KINDS = 4;
    private static final int MOST_CORNERS = 12;
    private static final int FARTHEST_CORNER = 20;
    private static final int GREATEST_SEEN = 40;
    private static final int GREATEST_FRACTION = 200;
    private static final int MOST_TIMES = 1000000000;
    /** The longest text is a number of 22 digits. */
    private static final int TEXT_ROOM = 64;
    private static final long BILLION = 1000000000L;
    /** No number that comes by needs a hundred rounds of a division with rest. */
    private static final int ROUNDS = 1000;

    private final Grid[] slots = new Grid[SLOTS];
    private final int[] keptSlots = new int[KEPT_CALLS];
    private final Grid[] keptGrids = new Grid[KEPT_CALLS];
    private int keptCount = 0;
    private final Basis basis = new Basis();
    private final StepRow stepRow = new StepRow();
    private final Cell cell = new Cell();
    private final Text text = new Text();
    private final Purse purse = new Purse();
    private final Polygon polygon = new Polygon();
    private final Leaper leaper = new Leaper();
    private final HullRow hullRow = new HullRow();

    public Latticeyard() {
    }

    // ---- grids (promises 2 to 12)

    public int spanned(int slot, int x, int y, int u, int v)
            throws IndexOutOfBoundsException, IllegalArgumentException, UnsupportedOperationException {
        checkSlot(slot);
        checkRange(x, -500, 500);
        checkRange(y, -500, 500);
        checkRange(u, -500, 500);
        checkRange(v, -500, 500);
        Grid grid = Grid.generated(x, y, u, v, 0);
        if (grid == null) {
            throw new UnsupportedOperationException("the steps are in a line");
        }
        return become(slot, grid);
    }

    public int remainder(int slot, int p, int q, int by)
            throws IndexOutOfBoundsException, IllegalArgumentException {
        checkSlot(slot);
        checkRange(p, -1000, 1000);
        checkRange(q, -1000, 1000);
        checkRange(by, 1, 1000);
        return become(slot, Grid.ofMultiples(p, q, by));
    }

    public int nth(int slot, int index, int rank)
            throws IndexOutOfBoundsException, IllegalArgumentException, NoSuchElementException {
        checkSlot(slot);
        checkRange(index, 1, GREATEST_LISTED_INDEX);
        Grid grid = Grid.ranked(index, rank);
        if (grid == null) {
            throw new NoSuchElementException("no such grid");
        }
        become(slot, grid);
        return grid.a;
    }

    public int grids(int index) throws IllegalArgumentException {
        checkRange(index, 1, GREATEST_LISTED_INDEX);
        int sum = 0;
        for (int divisor = 1; divisor <= index; divisor++) {
            if (index % divisor == 0) {
                sum += divisor;
            }
        }
        return sum;
    }

    public int form(int slot, char which)
            throws IndexOutOfBoundsException, IllegalArgumentException, NoSuchElementException {
        checkSlot(slot);
        if (which != 'a' && which != 'b' && which != 'c') {
            throw new IllegalArgumentException("no such letter");
        }
        Grid grid = gridIn(slot);
        if (which == 'a') {
            return grid.a;
        }
        return which == 'b' ? grid.b : grid.c;
    }

    public boolean has(int slot, int x, int y) throws IndexOutOfBoundsException, NoSuchElementException {
        checkSlot(slot);
        return gridIn(slot).contains(x, y);
    }

    public boolean isSame(int a, int b) throws IndexOutOfBoundsException, NoSuchElementException {
        checkSlot(a);
        checkSlot(b);
        Grid one = gridIn(a);
        Grid other = gridIn(b);
        return one.a == other.a && one.b == other.b && one.c == other.c;
    }

    public int parts(int a, int b)
            throws IndexOutOfBoundsException, NoSuchElementException, UnsupportedOperationException {
        checkSlot(a);
        checkSlot(b);
        Grid one = gridIn(a);
        Grid other = gridIn(b);
        if (!one.isPartOf(other) || other.index() < 1) {
            throw new UnsupportedOperationException("not within");
        }
        return one.index() / other.index();
    }

    public int meet(int slot, int a, int b)
            throws IndexOutOfBoundsException, NoSuchElementException, IllegalStateException {
        checkSlot(slot);
        checkSlot(a);
        checkSlot(b);
        Grid one = gridIn(a);
        Grid other = gridIn(b);
        if (Grid.meetIndex(one, other) > GREATEST_INDEX) {
            throw new IllegalStateException("the index would be too great");
        }
        return become(slot, Grid.meetOf(one, other));
    }

    public int join(int slot, int a, int b) throws IndexOutOfBoundsException, NoSuchElementException {
        checkSlot(slot);
        checkSlot(a);
        checkSlot(b);
        Grid one = gridIn(a);
        Grid other = gridIn(b);
        return become(slot, Grid.joinOf(one, other));
    }

    public int undo() throws NoSuchElementException {
        if (keptCount < 1 || keptCount > KEPT_CALLS) {
            throw new NoSuchElementException("no call is kept");
        }
        keptCount--;
        int slot = keptSlots[keptCount];
        if (slot >= 0 && slot < SLOTS) {
            slots[slot] = keptGrids[keptCount];
        }
        keptGrids[keptCount] = null;
        return slot;
    }

    // ---- steps, cells (promises 13 to 21)

    public int stepX(int slot, int number)
            throws IndexOutOfBoundsException, IllegalArgumentException, NoSuchElementException {
        checkSlot(slot);
        checkRange(number, 0, STEP_ROW - 1);
        listSteps(gridIn(slot));
        return stepRow.xOf(number);
    }

    public int stepY(int slot, int number)
            throws IndexOutOfBoundsException, IllegalArgumentException, NoSuchElementException {
        checkSlot(slot);
        checkRange(number, 0, STEP_ROW - 1);
        listSteps(gridIn(slot));
        return stepRow.yOf(number);
    }

    public int second(int slot) throws IndexOutOfBoundsException, NoSuchElementException {
        checkSlot(slot);
        listSteps(gridIn(slot));
        return stepRow.firstAside();
    }

    public int steps(int slot, int length)
            throws IndexOutOfBoundsException, IllegalArgumentException, NoSuchElementException {
        checkSlot(slot);
        checkRange(length, 0, GREATEST_LENGTH);
        return gridIn(slot).countUpTo(length);
    }

    public int nearX(int slot, int x, int y)
            throws IndexOutOfBoundsException, IllegalArgumentException, NoSuchElementException {
        seekNearest(slot, x, y);
        return (int) basis.foundX;
    }

    public int nearY(int slot, int x, int y)
            throws IndexOutOfBoundsException, IllegalArgumentException, NoSuchElementException {
        seekNearest(slot, x, y);
        return (int) basis.foundY;
    }

    public int corners(int slot) throws IndexOutOfBoundsException, NoSuchElementException {
        checkSlot(slot);
        drawCell(gridIn(slot));
        return cell.count;
    }

    public int tellCorner(int slot, int number, boolean isX)
            throws IndexOutOfBoundsException, NoSuchElementException {
        checkSlot(slot);
        drawCell(gridIn(slot));
        if (number < 0 || number >= cell.count) {
            throw new NoSuchElementException("the cell has no such corner");
        }
        long over = isX ? cell.overX(number) : cell.overY(number);
        return text.becomeFraction(over, cell.under);
    }

    public char signAt(int place) throws IndexOutOfBoundsException {
        if (place < 0 || place >= text.length) {
            throw new IndexOutOfBoundsException("no such place");
        }
        return text.sign(place);
    }

    // ---- coins (promises 22 to 27)

    public int coins(int a, int b, int c, int d)
            throws IllegalArgumentException, UnsupportedOperationException {
        if (!Purse.areValues(a, b, c, d)) {
            throw new IllegalArgumentException("no such kinds of coins");
        }
        if (gcd(gcd(a, b), gcd(c, d)) > 1) {
            throw new UnsupportedOperationException("all have a common divisor");
        }
        purse.take(a, b, c, d);
        return purse.greatest;
    }

    public int lacks() throws IllegalStateException {
        checkCoins();
        return purse.lackCount;
    }

    public int lackAt(int index) throws IllegalStateException, NoSuchElementException {
        checkCoins();
        if (index < 0 || index >= purse.lackCount) {
            throw new NoSuchElementException("no such lack");
        }
        return purse.lackOf(index);
    }

    public boolean canMake(int sum) throws IllegalStateException, IllegalArgumentException {
        checkCoins();
        checkRange(sum, 0, GREATEST_SUM);
        return purse.leastCoins(sum) >= 0;
    }

    public int fewest(int sum)
            throws IllegalStateException, IllegalArgumentException, NoSuchElementException {
        checkCoins();
        checkRange(sum, 0, GREATEST_SUM);
        int least = purse.leastCoins(sum);
        if (least < 0) {
            throw new NoSuchElementException("it cannot be made");
        }
        return least;
    }

    public int ways(int sum) throws IllegalStateException, IllegalArgumentException {
        checkCoins();
        checkRange(sum, 0, GREATEST_SUM);
        return text.becomeNumber(purse.wayCount(sum));
    }

    // ---- the polygon (promises 28 to 37)

    public int corner(int x, int y) throws IllegalArgumentException, IllegalStateException {
        checkRange(x, -FARTHEST_CORNER, FARTHEST_CORNER);
        checkRange(y, -FARTHEST_CORNER, FARTHEST_CORNER);
        if (polygon.count >= MOST_CORNERS) {
            throw new IllegalStateException("all corners are typed");
        }
        polygon.type(x, y);
        return polygon.count;
    }

    public int clear() {
        return polygon.takeAway();
    }

    public int close() throws IllegalStateException, UnsupportedOperationException {
        if (polygon.count < 3) {
            throw new IllegalStateException("too few corners");
        }
        if (!polygon.isProper()) {
            throw new UnsupportedOperationException("no polygon");
        }
        polygon.shut();
        return polygon.twiceArea();
    }

    public int rim() throws IllegalStateException {
        checkClosed();
        return polygon.rimPoints();
    }

    public int within() throws IllegalStateException {
        checkClosed();
        return (polygon.twiceArea() - polygon.rimPoints() + 2) / 2;
    }

    public char where(int x, int y) throws IllegalStateException {
        checkClosed();
        return polygon.placeOf(x, y, 1);
    }

    public boolean isConvex() throws IllegalStateException {
        checkClosed();
        return polygon.turnsOneWay();
    }

    public int grown(int times) throws IllegalStateException, IllegalArgumentException {
        checkClosed();
        checkRange(times, 1, MOST_TIMES);
        long sum = (long) polygon.twiceArea() * times + polygon.rimPoints();
        // sum * times is even: twice the area and the rim are even or odd together.
        if (times % 2 == 0) {
            return text.becomeProductAndOne(sum, times / 2);
        }
        return text.becomeProductAndOne(sum / 2, times);
    }

    public int triangleAt(int number, int which) throws IllegalStateException, NoSuchElementException {
        checkClosed();
        if (number < 0 || number >= polygon.count - 2 || which < 0 || which > 2) {
            throw new NoSuchElementException("no such triangle, or corner of it");
        }
        return polygon.ears.cornerOf(number, which);
    }

    public boolean tiles(int slot) throws IndexOutOfBoundsException, IllegalStateException,
            NoSuchElementException, UnsupportedOperationException {
        checkSlot(slot);
        checkClosed();
        Grid grid = gridIn(slot);
        if (!polygon.isUpright()) {
            throw new UnsupportedOperationException("a side goes neither along x nor along y");
        }
        return polygon.fillsBy(grid);
    }

    // ---- seen points, leaps (promises 38 to 40)

    public int seen(int up) throws IllegalArgumentException {
        checkRange(up, 1, GREATEST_SEEN);
        return countSeen(up);
    }

    public int seenAt(int up, int index) throws IllegalArgumentException, NoSuchElementException {
        checkRange(up, 1, GREATEST_SEEN);
        if (index < 0 || index >= countSeen(up)) {
            throw new NoSuchElementException("no such point");
        }
        return findSeen(up, index);
    }

    public int leaps(int a, int b, int x, int y) throws IllegalArgumentException, NoSuchElementException {
        checkRange(a, 0, 4);
        checkRange(b, 0, 4);
        checkRange(x, -12, 12);
        checkRange(y, -12, 12);
        if (a == 0 && b == 0) {
            throw new IllegalArgumentException("no leaper");
        }
        int count = leaper.countTo(a, b, x, y);
        if (count < 0) {
            throw new NoSuchElementException("it never comes there");
        }
        return count;
    }

    // ---- terms, hulls (promises 41 to 44)

    public int terms(int p, int q) throws IllegalArgumentException {
        checkFraction(p, q);
        return countTerms(p, q);
    }

    public int termAt(int p, int q, int index) throws IllegalArgumentException, NoSuchElementException {
        checkFraction(p, q);
        if (index < 0 || index >= countTerms(p, q)) {
            throw new NoSuchElementException("no such term");
        }
        return findTerm(p, q, index);
    }

    public int hull(int p, int q) throws IllegalArgumentException {
        checkFraction(p, q);
        hullRow.build(p, q);
        return hullRow.count;
    }

    public int hullAt(int p, int q, int index) throws IllegalArgumentException, NoSuchElementException {
        checkFraction(p, q);
        hullRow.build(p, q);
        if (index < 0 || index >= hullRow.count) {
            throw new NoSuchElementException("no such corner");
        }
        return 1000 * hullRow.xOf(index) + hullRow.yOf(index);
    }

    // ---- figures (promises 45 to 47)

    public int held() {
        int count = 0;
        for (int slot = 0; slot < SLOTS; slot++) {
            if (slots[slot] != null) {
                count++;
            }
        }
        return count;
    }

    public long checksum() {
        long sum = 7;
        for (int slot = 0; slot < SLOTS; slot++) {
            Grid grid = slots[slot];
            if (grid == null) {
                sum = 31 * sum;
            } else {
                sum = 31 * sum + grid.a;
                sum = 31 * sum + grid.b;
                sum = 31 * sum + grid.c;
            }
        }
        sum = purse.addTo(sum);
        sum = polygon.addTo(sum);
        return text.addTo(sum);
    }

    public boolean isSound() {
        for (int slot = 0; slot < SLOTS; slot++) {
            Grid grid = slots[slot];
            Grid next = slot + 1 < SLOTS ? slots[slot + 1] : null;
            if (grid != null && !leastStepsSpan(grid)) {
                return false;
            }
            if (grid != null && next != null && !indexesAgree(grid, next)) {
                return false;
            }
        }
        return polygonAgrees() && purse.lacksAreHalf() && seenNeighboursSpan(12)
                && hullIsLowest(5, 7) && hullIsLowest(7, 5);
    }

    // ---- what the calls share

    private static void checkSlot(int slot) {
        if (slot < 0 || slot >= SLOTS) {
            throw new IndexOutOfBoundsException("no such slot");
        }
    }

    private static void checkRange(int number, int least, int greatest) {
        if (number < least || number > greatest) {
            throw new IllegalArgumentException("a number is out of range");
        }
    }

    private static void checkFraction(int p, int q) {
        checkRange(p, 1, GREATEST_FRACTION);
        checkRange(q, 1, GREATEST_FRACTION);
    }

    private void checkCoins() {
        if (purse.kinds == 0) {
            throw new IllegalStateException("no coins are told");
        }
    }

    private void checkClosed() {
        if (!polygon.isShut) {
            throw new IllegalStateException("no polygon is closed");
        }
    }

    private Grid gridIn(int slot) {
        Grid grid = slot >= 0 && slot < SLOTS ? slots[slot] : null;
        if (grid == null) {
            throw new NoSuchElementException("that slot holds none");
        }
        return grid;
    }

    private int become(int slot, Grid grid) {
        if (slot < 0 || slot >= SLOTS || grid == null) {
            return 0;
        }
        if (keptCount >= KEPT_CALLS) {
            forgetOldest();
        }
        keptSlots[keptCount] = slot;
        keptGrids[keptCount] = slots[slot];
        keptCount++;
        slots[slot] = grid;
        return grid.index();
    }

    private void forgetOldest() {
        for (int call = 1; call < KEPT_CALLS; call++) {
            keptSlots[call - 1] = keptSlots[call];
            keptGrids[call - 1] = keptGrids[call];
        }
        keptCount = KEPT_CALLS - 1;
    }

    private void listSteps(Grid grid) {
        basis.reduce(grid);
        stepRow.fill(basis);
    }

    private void drawCell(Grid grid) {
        basis.reduce(grid);
        cell.draw(basis);
    }

    private void seekNearest(int slot, int x, int y) {
        checkSlot(slot);
        checkRange(x, -2000, 2000);
        checkRange(y, -2000, 2000);
        basis.reduce(gridIn(slot));
        basis.seek(x, y);
    }

    // ---- numbers

    /** The greatest common divisor, that of 0 and a number being the number. */
    private static long gcd(long one, long other) {
        long p = Math.abs(one);
        long q = Math.abs(other);
        for (int round = 0; round < ROUNDS && q != 0; round++) {
            long rest = p % q;
            p = q;
            q = rest;
        }
        return p;
    }

    private static int countTerms(int p, int q) {
        int count = 0;
        for (int round = 0; round < ROUNDS && q != 0; round++) {
            int rest = p % q;
            p = q;
            q = rest;
            count++;
        }
        return count;
    }

    private static int findTerm(int p, int q, int index) {
        for (int round = 0; round < index && q != 0; round++) {
            int rest = p % q;
            p = q;
            q = rest;
        }
        return q == 0 ? 0 : p / q;
    }

    private static int countSeen(int up) {
        int count = 0;
        for (int x = 1; x <= up; x++) {
            for (int y = 0; y <= x; y++) {
                if (gcd(x, y) == 1) {
                    count++;
                }
            }
        }
        return count;
    }

    /** Of three seen points in a row the outer ones, added, are a multiple of the one between them. */
    private static int findSeen(int up, int index) {
        int x = 1;
        int y = 0;
        int nextX = up;
        int nextY = 1;
        for (int number = 0; number < index && nextX > 0; number++) {
            int times = (up + x) / nextX;
            int afterX = times * nextX - x;
            int afterY = times * nextY - y;
            x = nextX;
            y = nextY;
            nextX = afterX;
            nextY = afterY;
        }
        return 100 * x + y;
    }

    // ---- the theorem

    private boolean leastStepsSpan(Grid grid) {
        listSteps(grid);
        int aside = stepRow.firstAside();
        if (aside < 0) {
            return true;
        }
        long x = stepRow.xOf(0);
        long y = stepRow.yOf(0);
        long u = stepRow.xOf(aside);
        long v = stepRow.yOf(aside);
        return grid.contains(x, y) && grid.contains(u, v) && Math.abs(x * v - y * u) == grid.index();
    }

    private static boolean indexesAgree(Grid one, Grid other) {
        Grid joined = Grid.joinOf(one, other);
        if (joined == null || !one.isPartOf(joined) || !other.isPartOf(joined)) {
            return false;
        }
        long met = Grid.meetIndex(one, other);
        if (met <= GREATEST_INDEX) {
            Grid both = Grid.meetOf(one, other);
            if (both == null || both.index() != met || !both.isPartOf(one) || !both.isPartOf(other)) {
                return false;
            }
        }
        return met * joined.index() == (long) one.index() * other.index();
    }

    private boolean polygonAgrees() {
        if (!polygon.isShut) {
            return true;
        }
        for (int times = 1; times <= 3; times++) {
            if (!polygon.countsAgree(times)) {
                return false;
            }
        }
        return true;
    }

    private static boolean seenNeighboursSpan(int up) {
        int count = countSeen(up);
        for (int number = 1; number < count; number++) {
            int before = findSeen(up, number - 1);
            int point = findSeen(up, number);
            int turn = (before / 100) * (point % 100) - (before % 100) * (point / 100);
            if (turn != 1 || point / 100 > up) {
                return false;
            }
        }
        return findSeen(up, count - 1) == 101;
    }

    private boolean hullIsLowest(int p, int q) {
        hullRow.build(p, q);
        return hullRow.bendsUp() && hullRow.liesBelowAll(p, q);
    }

    /** A grid by its form; it never changes, so that slots and kept calls may share it. */
    private static final class Grid {
        final int a;
        final int b;
        final int c;

        Grid(int a, int b, int c) {
            this.a = a;
            this.b = b;
            this.c = c;
        }

        /** The grid of all sums of x, y and u, v and 0, down, or null if they are in a line. */
        static Grid generated(long x, long y, long u, long v, long down) {
            for (int round = 0; round < ROUNDS && u != 0; round++) {
                long times = x / u;
                long restX = x - times * u;
                long restY = y - times * v;
                x = u;
                y = v;
                u = restX;
                v = restY;
            }
            long c = gcd(v, down);
            if (x == 0 || c == 0) {
                return null;
            }
            long b = x < 0 ? -y : y;
            return new Grid((int) Math.abs(x), (int) Math.floorMod(b, c), (int) c);
        }

        static Grid ofMultiples(int p, int q, int by) {
            int shared = (int) gcd(q, by);
            int sharedByAll = (int) gcd(p, shared);
            if (shared < 1 || sharedByAll < 1 || by < 1) {
                return null;
            }
            int a = shared / sharedByAll;
            int c = by / shared;
            int b = 0;
            for (int tried = 0; tried < c; tried++) {
                if ((p * a + q * tried) % by == 0) {
                    b = tried;
                    break;
                }
            }
            return new Grid(a, b, c);
        }

        static Grid ranked(int index, int rank) {
            if (rank < 0) {
                return null;
            }
            int left = rank;
            for (int a = 1; a <= index; a++) {
                if (index % a == 0) {
                    int c = index / a;
                    if (left < c) {
                        return new Grid(a, left, c);
                    }
                    left -= c;
                }
            }
            return null;
        }

        static Grid joinOf(Grid one, Grid other) {
            return generated(one.a, one.b, other.a, other.b, gcd(one.c, other.c));
        }

        /** The a of the meet: the least x above 0 that points of both have with a like y. */
        static long meetWidth(Grid one, Grid other) {
            long shared = gcd(one.a, other.a);
            if (shared < 1) {
                return 1;
            }
            long width = one.a / shared * other.a;
            long apart = other.a / shared * one.b - one.a / shared * other.b;
            long tall = gcd(one.c, other.c);
            long common = gcd(tall, apart);
            return common < 1 ? width : tall / common * width;
        }

        static long meetHeight(Grid one, Grid other) {
            long shared = gcd(one.c, other.c);
            return shared < 1 ? 1 : one.c / shared * other.c;
        }

        static long meetIndex(Grid one, Grid other) {
            return meetWidth(one, other) * meetHeight(one, other);
        }

        /** The meet of two grids whose index is known to be at most the greatest one. */
        static Grid meetOf(Grid one, Grid other) {
            // By the higher one it takes at most a thousand tries.
            Grid high = one.c >= other.c ? one : other;
            Grid low = one.c >= other.c ? other : one;
            if (high.a < 1 || low.a < 1 || high.c < 1 || low.c < 1) {
                return null;
            }
            long width = meetWidth(one, other);
            long height = meetHeight(one, other);
            long y = Math.floorMod(width / high.a * high.b, (long) high.c);
            long wanted = width / low.a * low.b;
            for (int tried = 0; tried < low.c && (y - wanted) % low.c != 0; tried++) {
                y += high.c;
            }
            return new Grid((int) width, (int) y, (int) height);
        }

        int index() {
            return a * c;
        }

        boolean contains(long x, long y) {
            if (a < 1 || c < 1 || x % a != 0) {
                return false;
            }
            return (y - x / a * b) % c == 0;
        }

        boolean isPartOf(Grid other) {
            return other.contains(a, b) && other.contains(0, c);
        }

        int countUpTo(int length) {
            if (a < 1 || c < 1) {
                return 0;
            }
            int count = -1;
            for (int i = -(50 / a); i <= 50 / a; i++) {
                int x = i * a;
                for (int y = Math.floorMod(i * b + 50, c) - 50; y <= 50; y += c) {
                    if (x * x + y * y <= length) {
                        count++;
                    }
                }
            }
            return count;
        }

        /** A number from 0 to the index less 1 that two places share if they are a point apart. */
        int classOf(int x, int y) {
            if (a < 1 || c < 1) {
                return 0;
            }
            int i = Math.floorDiv(x, a);
            return (x - i * a) * c + Math.floorMod(y - i * b, c);
        }
    }

    /**
     * Two least steps of a grid, in no line, that span it. Their turn is to the left and their angle
     * is not below a right one, so that they, their sum, and these turned round are all that bounds
     * the cell.
     */
    private static final class Basis {
        long x1 = 1;
        long y1 = 0;
        long x2 = 0;
        long y2 = 1;
        long foundX = 0;
        long foundY = 0;
        private long foundLength = 0;

        void reduce(Grid grid) {
            x1 = grid.a;
            y1 = grid.b;
            x2 = 0;
            y2 = grid.c;
            for (int round = 0; round < ROUNDS; round++) {
                if (x1 * x1 + y1 * y1 > x2 * x2 + y2 * y2) {
                    swap();
                }
                long length = x1 * x1 + y1 * y1;
                long times = length < 1 ? 0 : Math.floorDiv(2 * product() + length, 2 * length);
                if (times == 0) {
                    break;
                }
                x2 -= times * x1;
                y2 -= times * y1;
            }
            if (product() > 0) {
                x2 = -x2;
                y2 = -y2;
            }
            if (turn() < 0) {
                swap();
            }
        }

        private void swap() {
            long x = x1;
            long y = y1;
            x1 = x2;
            y1 = y2;
            x2 = x;
            y2 = y;
        }

        long product() {
            return x1 * x2 + y1 * y2;
        }

        long turn() {
            return x1 * y2 - y1 * x2;
        }

        /** The nearest point is at most one of each step off the mesh that the place lies in. */
        void seek(long x, long y) {
            long turn = turn();
            if (turn < 1) {
                return;
            }
            long atI = Math.floorDiv(x * y2 - y * x2, turn);
            long atJ = Math.floorDiv(x1 * y - y1 * x, turn);
            foundLength = -1;
            for (long i = atI - 1; i <= atI + 2; i++) {
                for (long j = atJ - 1; j <= atJ + 2; j++) {
                    compare(x, y, i * x1 + j * x2, i * y1 + j * y2);
                }
            }
        }

        private void compare(long x, long y, long pointX, long pointY) {
            long length = (pointX - x) * (pointX - x) + (pointY - y) * (pointY - y);
            boolean isNearer = foundLength < 0 || length < foundLength;
            if (!isNearer && length == foundLength) {
                isNearer = pointX < foundX || (pointX == foundX && pointY < foundY);
            }
            if (isNearer) {
                foundLength = length;
                foundX = pointX;
                foundY = pointY;
            }
        }
    }

    /** The first twenty steps of a grid, in their order. */
    private static final class StepRow {
        /**
         * Twenty multiples of the least step are at most 400 times as long as it; i and j times the
         * steps of the basis are at least 3/4 of the squares of i and of j as long.
         */
        private static final int REACH = 24;
        private final long[] lengths = new long[STEP_ROW];
        private final long[] xs = new long[STEP_ROW];
        private final long[] ys = new long[STEP_ROW];
        private int count = 0;

        void fill(Basis basis) {
            count = 0;
            for (int i = 1; i <= REACH; i++) {
                add(i * basis.x1, i * basis.y1);
            }
            for (int j = 1; j <= REACH; j++) {
                for (int i = -REACH; i <= REACH; i++) {
                    add(i * basis.x1 + j * basis.x2, i * basis.y1 + j * basis.y2);
                }
            }
        }

        private void add(long pointX, long pointY) {
            boolean isTurned = pointX < 0 || (pointX == 0 && pointY < 0);
            long x = isTurned ? -pointX : pointX;
            long y = isTurned ? -pointY : pointY;
            long length = x * x + y * y;
            int place = count;
            while (place > 0 && isAhead(length, x, y, place - 1)) {
                place--;
            }
            if (place >= STEP_ROW) {
                return;
            }
            if (count < STEP_ROW) {
                count++;
            }
            for (int moved = count - 1; moved > place; moved--) {
                lengths[moved] = lengths[moved - 1];
                xs[moved] = xs[moved - 1];
                ys[moved] = ys[moved - 1];
            }
            lengths[place] = length;
            xs[place] = x;
            ys[place] = y;
        }

        private boolean isAhead(long length, long x, long y, int place) {
            if (place < 0 || place >= STEP_ROW) {
                return false;
            }
            if (length != lengths[place]) {
                return length < lengths[place];
            }
            return x != xs[place] ? x < xs[place] : y < ys[place];
        }

        int xOf(int number) {
            return number >= 0 && number < STEP_ROW ? (int) xs[number] : 0;
        }

        int yOf(int number) {
            return number >= 0 && number < STEP_ROW ? (int) ys[number] : 0;
        }

        int firstAside() {
            for (int number = 1; number < STEP_ROW; number++) {
                if (xs[0] * ys[number] != ys[0] * xs[number]) {
                    return number;
                }
            }
            return -1;
        }
    }

    /** The corners of the cell of a grid, each as two numbers over the same number. */
    private static final class Cell {
        private static final int MOST = 6;
        int count = 4;
        long under = 1;
        private final long[] overXs = new long[MOST];
        private final long[] overYs = new long[MOST];
        private int first = 0;

        void draw(Basis basis) {
            under = 2 * basis.turn();
            long sumX = basis.x1 + basis.x2;
            long sumY = basis.y1 + basis.y2;
            if (basis.product() == 0) {
                count = 4;
                put(0, basis.x1, basis.y1, basis.x2, basis.y2);
                put(1, basis.x2, basis.y2, -basis.x1, -basis.y1);
            } else {
                count = 6;
                put(0, basis.x1, basis.y1, sumX, sumY);
                put(1, sumX, sumY, basis.x2, basis.y2);
                put(2, basis.x2, basis.y2, -basis.x1, -basis.y1);
            }
            findFirst();
        }

        /** The place as far from 0, 0 as from p, q and from u, v, and the one across 0, 0. */
        private void put(int place, long p, long q, long u, long v) {
            int across = place + count / 2;
            if (place < 0 || across >= MOST) {
                return;
            }
            long one = p * p + q * q;
            long other = u * u + v * v;
            overXs[place] = one * v - other * q;
            overYs[place] = other * p - one * u;
            overXs[across] = -overXs[place];
            overYs[across] = -overYs[place];
        }

        private void findFirst() {
            first = 0;
            for (int place = 1; place < count && place < MOST; place++) {
                boolean isFurther = overXs[place] > overXs[first];
                if (overXs[place] == overXs[first]) {
                    isFurther = overYs[place] > overYs[first];
                }
                if (isFurther) {
                    first = place;
                }
            }
        }

        long overX(int number) {
            return overXs[placeOfCorner(number)];
        }

        long overY(int number) {
            return overYs[placeOfCorner(number)];
        }

        private int placeOfCorner(int number) {
            return count < 1 || count > MOST ? 0 : Math.floorMod(first + number, count);
        }
    }

    /** The one text of a yard. */
    private static final class Text {
        int length = 0;
        private final char[] signs = new char[TEXT_ROOM];

        char sign(int place) {
            return place >= 0 && place < TEXT_ROOM ? signs[place] : 0;
        }

        int becomeNumber(long number) {
            length = 0;
            putNumber(number);
            return length;
        }

        int becomeFraction(long over, long under) {
            long shared = gcd(over, under);
            length = 0;
            putNumber(shared < 1 ? over : over / shared);
            putSign('/');
            putNumber(shared < 1 ? under : under / shared);
            return length;
        }

        /** Puts one * other + 1, which may be above all longs; other is at most a billion. */
        int becomeProductAndOne(long one, long other) {
            long low = one % BILLION * other + 1;
            long high = one / BILLION * other + low / BILLION;
            length = 0;
            if (high > 0) {
                putNumber(high);
                putDigits(low % BILLION, BILLION / 10);
            } else {
                putNumber(low);
            }
            return length;
        }

        private void putNumber(long number) {
            if (number < 0) {
                putSign('-');
            }
            long rest = Math.abs(number);
            long unit = 1;
            for (int digit = 1; digit < 19 && rest / 10 >= unit; digit++) {
                unit *= 10;
            }
            putDigits(rest, unit);
        }

        private void putDigits(long number, long highest) {
            long unit = highest;
            for (int digit = 0; digit < 19 && unit > 0; digit++) {
                putSign((char) ('0' + number / unit % 10));
                unit /= 10;
            }
        }

        private void putSign(char sign) {
            if (length >= 0 && length < TEXT_ROOM) {
                signs[length] = sign;
                length++;
            }
        }

        long addTo(long sum) {
            long all = sum;
            for (int place = 0; place < length && place < TEXT_ROOM; place++) {
                all = 31 * all + signs[place];
            }
            return all;
        }
    }

    /** The kinds of coins, and what they make up to the greatest sum. */
    private static final class Purse {
        private static final int LEAST_VALUE = 2;
        private static final int GREATEST_VALUE = 50;
        int kinds = 0;
        int greatest = 0;
        int lackCount = 0;
        private final int[] values = new int[MOST_KINDS];
        /** -1 where a sum cannot be made. */
        private final int[] coinCounts = new int[GREATEST_SUM + 1];
        private final int[] wayCounts = new int[GREATEST_SUM + 1];

        static boolean areValues(int a, int b, int c, int d) {
            if (!isValue(a) || !isValue(b) || (c != 0 && !isValue(c)) || (d != 0 && !isValue(d))) {
                return false;
            }
            if (c == 0) {
                return d == 0 && a != b;
            }
            return a != b && a != c && b != c && a != d && b != d && c != d;
        }

        private static boolean isValue(int value) {
            return value >= LEAST_VALUE && value <= GREATEST_VALUE;
        }

        void take(int a, int b, int c, int d) {
            values[0] = a;
            values[1] = b;
            values[2] = c;
            values[3] = d;
            kinds = 2;
            if (c != 0) {
                kinds = d != 0 ? 4 : 3;
            }
            Arrays.fill(coinCounts, -1);
            Arrays.fill(wayCounts, 0);
            coinCounts[0] = 0;
            wayCounts[0] = 1;
            for (int kind = 0; kind < kinds; kind++) {
                addKind(values[kind]);
            }
            countLacks();
        }

        private void addKind(int value) {
            if (value < 1) {
                return;
            }
            for (int sum = value; sum <= GREATEST_SUM; sum++) {
                wayCounts[sum] += wayCounts[sum - value];
                int least = coinCounts[sum - value];
                if (least >= 0 && (coinCounts[sum] < 0 || least + 1 < coinCounts[sum])) {
                    coinCounts[sum] = least + 1;
                }
            }
        }

        /** No lack is above the greatest sum, as the values are at most 50. */
        private void countLacks() {
            greatest = 0;
            lackCount = 0;
            for (int sum = 0; sum <= GREATEST_SUM; sum++) {
                if (coinCounts[sum] < 0) {
                    greatest = sum;
                    lackCount++;
                }
            }
        }

        int lackOf(int index) {
            int left = index;
            for (int sum = 0; sum <= GREATEST_SUM; sum++) {
                if (coinCounts[sum] < 0) {
                    if (left == 0) {
                        return sum;
                    }
                    left--;
                }
            }
            return -1;
        }

        int leastCoins(int sum) {
            return sum >= 0 && sum <= GREATEST_SUM ? coinCounts[sum] : -1;
        }

        int wayCount(int sum) {
            return sum >= 0 && sum <= GREATEST_SUM ? wayCounts[sum] : 0;
        }

        long addTo(long sum) {
            long all = sum;
            for (int kind = 0; kind < kinds && kind < MOST_KINDS; kind++) {
                all = 31 * all + values[kind];
            }
            return all;
        }

        boolean lacksAreHalf() {
            if (kinds != 2) {
                return true;
            }
            for (int sum = 0; sum <= greatest; sum++) {
                if ((leastCoins(sum) < 0) == (leastCoins(greatest - sum) < 0)) {
                    return false;
                }
            }
            return 2 * lackCount == greatest + 1;
        }
    }

    /** The corners that are typed, and the polygon that they are once it is shut. */
    private static final class Polygon {
        private static final int WIDTH = 2 * FARTHEST_CORNER;
        int count = 0;
        boolean isShut = false;
        final Ears ears = new Ears();
        private final int[] xs = new int[MOST_CORNERS];
        private final int[] ys = new int[MOST_CORNERS];
        private final int[] marks = new int[WIDTH * WIDTH];
        private final int[] rowSides = new int[MOST_CORNERS];
        private int rowSideCount = 0;

        void type(int x, int y) {
            if (count < 0 || count >= MOST_CORNERS) {
                return;
            }
            xs[count] = x;
            ys[count] = y;
            count++;
            isShut = false;
        }

        int takeAway() {
            int before = count;
            count = 0;
            isShut = false;
            return before;
        }

        void shut() {
            isShut = true;
            ears.cutAll(this);
        }

        int xOf(int corner) {
            return corner >= 0 && corner < MOST_CORNERS ? xs[corner] : 0;
        }

        int yOf(int corner) {
            return corner >= 0 && corner < MOST_CORNERS ? ys[corner] : 0;
        }

        private int after(int corner) {
            return corner + 1 < count ? corner + 1 : 0;
        }

        /** Twice the area of three corners, above 0 if they turn to the left. */
        int turn(int i, int j, int k) {
            return (xOf(j) - xOf(i)) * (yOf(k) - yOf(i)) - (yOf(j) - yOf(i)) * (xOf(k) - xOf(i));
        }

        /** Twice the area, above 0 if the way round goes against the hands of a clock. */
        int signedArea() {
            int sum = 0;
            for (int corner = 0; corner < count; corner++) {
                int next = after(corner);
                sum += xOf(corner) * yOf(next) - yOf(corner) * xOf(next);
            }
            return sum;
        }

        int twiceArea() {
            return Math.abs(signedArea());
        }

        int rimPoints() {
            int sum = 0;
            for (int corner = 0; corner < count; corner++) {
                int next = after(corner);
                sum += (int) gcd(xOf(next) - xOf(corner), yOf(next) - yOf(corner));
            }
            return sum;
        }

        boolean isProper() {
            for (int side = 0; side < count; side++) {
                if (foldsBack(side)) {
                    return false;
                }
                for (int other = side + 2; other < count; other++) {
                    if (after(other) != side && sidesMeet(side, other)) {
                        return false;
                    }
                }
            }
            return true;
        }

        /** A side and the next one have more than their corner in common, or the side is a point. */
        private boolean foldsBack(int side) {
            int middle = after(side);
            int end = after(middle);
            int x = xOf(side) - xOf(middle);
            int y = yOf(side) - yOf(middle);
            int u = xOf(end) - xOf(middle);
            int v = yOf(end) - yOf(middle);
            boolean isPoint = x == 0 && y == 0;
            return isPoint || (x * v == y * u && x * u + y * v > 0);
        }

        private boolean sidesMeet(int side, int other) {
            int sideEnd = after(side);
            int otherEnd = after(other);
            if (isOn(side, other) || isOn(side, otherEnd) || isOn(other, side) || isOn(other, sideEnd)) {
                return true;
            }
            return crosses(side, other, otherEnd) && crosses(other, side, sideEnd);
        }

        private boolean isOn(int side, int corner) {
            int end = after(side);
            int x = xOf(corner);
            int y = yOf(corner);
            return turn(side, end, corner) == 0
                    && x >= Math.min(xOf(side), xOf(end)) && x <= Math.max(xOf(side), xOf(end))
                    && y >= Math.min(yOf(side), yOf(end)) && y <= Math.max(yOf(side), yOf(end));
        }

        private boolean crosses(int side, int one, int other) {
            int end = after(side);
            int atOne = turn(side, end, one);
            int atOther = turn(side, end, other);
            return (atOne > 0 && atOther < 0) || (atOne < 0 && atOther > 0);
        }

        char placeOf(long x, long y, int times) {
            findSidesAt(y, times);
            return placeInRow(x, y, times);
        }

        /** All points of a row look at the same few sides, so these are found once a row. */
        private void findSidesAt(long y, int times) {
            rowSideCount = 0;
            for (int side = 0; side < count; side++) {
                long y1 = (long) times * yOf(side);
                long y2 = (long) times * yOf(after(side));
                boolean isNear = y >= Math.min(y1, y2) && y <= Math.max(y1, y2);
                if (isNear && rowSideCount < rowSides.length) {
                    rowSides[rowSideCount] = side;
                    rowSideCount++;
                }
            }
        }

        /** Where a point of the row is, of the polygon grown some times: sides to its right are odd within. */
        private char placeInRow(long x, long y, int times) {
            boolean isOdd = false;
            for (int near = 0; near < rowSideCount && near < rowSides.length; near++) {
                int side = rowSides[near];
                int next = after(side);
                long x1 = (long) times * xOf(side);
                long y1 = (long) times * yOf(side);
                long x2 = (long) times * xOf(next);
                long y2 = (long) times * yOf(next);
                long turn = (x2 - x1) * (y - y1) - (y2 - y1) * (x - x1);
                if (turn == 0 && x >= Math.min(x1, x2) && x <= Math.max(x1, x2)) {
                    return 'r';
                }
                if ((y1 > y) != (y2 > y) && (y2 > y1) == (turn > 0)) {
                    isOdd = !isOdd;
                }
            }
            return isOdd ? 'w' : 'o';
        }

        boolean turnsOneWay() {
            boolean isLeft = false;
            boolean isRight = false;
            for (int corner = 0; corner < count; corner++) {
                int middle = after(corner);
                int turn = turn(corner, middle, after(middle));
                isLeft = isLeft || turn > 0;
                isRight = isRight || turn < 0;
            }
            return !isLeft || !isRight;
        }

        boolean isUpright() {
            for (int corner = 0; corner < count; corner++) {
                int next = after(corner);
                if (xOf(corner) != xOf(next) && yOf(corner) != yOf(next)) {
                    return false;
                }
            }
            return true;
        }

        boolean fillsBy(Grid grid) {
            if (twiceArea() != 2 * grid.index()) {
                return false;
            }
            Arrays.fill(marks, 0);
            for (int x = -FARTHEST_CORNER; x < FARTHEST_CORNER; x++) {
                for (int y = -FARTHEST_CORNER; y < FARTHEST_CORNER; y++) {
                    if (hasSquare(x, y) && isMarked(grid.classOf(x, y))) {
                        return false;
                    }
                }
            }
            return true;
        }

        /** Marks a place, and tells whether it was marked before. */
        private boolean isMarked(int place) {
            if (place < 0 || place >= marks.length) {
                return false;
            }
            marks[place]++;
            return marks[place] > 1;
        }

        /** Whether the unit square that goes right and up from a point is in the polygon. */
        private boolean hasSquare(int x, int y) {
            boolean isOdd = false;
            for (int corner = 0; corner < count; corner++) {
                int next = after(corner);
                boolean isPassed = (yOf(corner) > y) != (yOf(next) > y);
                if (isPassed && xOf(corner) > x) {
                    isOdd = !isOdd;
                }
            }
            return isOdd;
        }

        private int least(int[] row) {
            int least = FARTHEST_CORNER;
            for (int corner = 0; corner < count && corner < row.length; corner++) {
                least = Math.min(least, row[corner]);
            }
            return least;
        }

        private int greatest(int[] row) {
            int greatest = -FARTHEST_CORNER;
            for (int corner = 0; corner < count && corner < row.length; corner++) {
                greatest = Math.max(greatest, row[corner]);
            }
            return greatest;
        }

        boolean countsAgree(int times) {
            int inside = 0;
            int onRim = 0;
            int left = times * least(xs);
            int right = times * greatest(xs);
            int top = times * greatest(ys);
            for (int y = times * least(ys); y <= top; y++) {
                findSidesAt(y, times);
                for (int x = left; x <= right; x++) {
                    char place = placeInRow(x, y, times);
                    inside += place == 'w' ? 1 : 0;
                    onRim += place == 'r' ? 1 : 0;
                }
            }
            int area = twiceArea();
            return area * times * times == 2 * inside + onRim - 2
                    && 2 * (inside + onRim) == area * times * times + rimPoints() * times + 2;
        }

        long addTo(long sum) {
            long all = sum;
            for (int corner = 0; corner < count; corner++) {
                all = 31 * all + xOf(corner);
                all = 31 * all + yOf(corner);
            }
            return all;
        }
    }

    /** The triangles of a polygon, cut off ear by ear. */
    private static final class Ears {
        private final int[] left = new int[MOST_CORNERS];
        private int leftCount = 0;
        private final int[] cut = new int[3 * MOST_CORNERS];
        private int cutCount = 0;

        void cutAll(Polygon polygon) {
            leftCount = Math.min(polygon.count, MOST_CORNERS);
            cutCount = 0;
            for (int corner = 0; corner < leftCount; corner++) {
                left[corner] = corner;
            }
            for (int round = 0; round < MOST_CORNERS && leftCount > 3; round++) {
                cutFirst(polygon);
            }
            keep(leftAt(0), leftAt(1), leftAt(2));
        }

        private void cutFirst(Polygon polygon) {
            for (int place = 0; place < leftCount; place++) {
                if (isEar(polygon, place)) {
                    keep(leftAt(place - 1), leftAt(place), leftAt(place + 1));
                    remove(place);
                    return;
                }
            }
        }

        /** A corner that is left, the places going round. */
        private int leftAt(int place) {
            if (leftCount < 1 || leftCount > MOST_CORNERS) {
                return 0;
            }
            return left[Math.floorMod(place, leftCount)];
        }

        private void remove(int place) {
            leftCount--;
            for (int moved = place; moved < leftCount; moved++) {
                left[moved] = left[moved + 1];
            }
        }

        private void keep(int before, int ear, int behind) {
            int place = 3 * cutCount;
            if (place >= 0 && place + 2 < cut.length) {
                cut[place] = before;
                cut[place + 1] = ear;
                cut[place + 2] = behind;
                cutCount++;
            }
        }

        private boolean isEar(Polygon polygon, int place) {
            int before = leftAt(place - 1);
            int ear = leftAt(place);
            int behind = leftAt(place + 1);
            int way = polygon.signedArea() > 0 ? 1 : -1;
            if (way * polygon.turn(before, ear, behind) <= 0) {
                return false;
            }
            for (int other = 0; other < leftCount; other++) {
                int corner = leftAt(other);
                boolean isOwn = corner == before || corner == ear || corner == behind;
                if (!isOwn && way * polygon.turn(before, ear, corner) >= 0
                        && way * polygon.turn(ear, behind, corner) >= 0
                        && way * polygon.turn(behind, before, corner) >= 0) {
                    return false;
                }
            }
            return true;
        }

        int cornerOf(int number, int which) {
            int place = 3 * number + which;
            return place >= 0 && place < cut.length ? cut[place] : -1;
        }
    }

    /** A leaper's ways over its square, from the middle on. */
    private static final class Leaper {
        private static final int FAR = 30;
        private static final int WIDTH = 2 * FAR + 1;
        private static final int[] ACROSS = {1, 1, -1, -1};
        private static final int[] UP = {1, -1, 1, -1};
        /** -1 where it has not come yet. */
        private final int[] counts = new int[WIDTH * WIDTH];
        private final int[] queue = new int[WIDTH * WIDTH];
        private int queued = 0;

        int countTo(int a, int b, int x, int y) {
            Arrays.fill(counts, -1);
            queued = 0;
            int wanted = placeOfPoint(x, y);
            if (wanted < 0) {
                return -1;
            }
            comeTo(0, 0, 0);
            for (int next = 0; next < queued && counts[wanted] < 0; next++) {
                leapFrom(queue[next], a, b);
            }
            return counts[wanted];
        }

        private void leapFrom(int place, int a, int b) {
            if (place < 0 || place >= counts.length) {
                return;
            }
            int x = place / WIDTH - FAR;
            int y = place % WIDTH - FAR;
            int count = counts[place] + 1;
            for (int way = 0; way < ACROSS.length; way++) {
                comeTo(x + ACROSS[way] * a, y + UP[way] * b, count);
                comeTo(x + ACROSS[way] * b, y + UP[way] * a, count);
            }
        }

        private void comeTo(int x, int y, int count) {
            int place = placeOfPoint(x, y);
            if (place >= 0 && counts[place] < 0 && queued < queue.length) {
                counts[place] = count;
                queue[queued] = place;
                queued++;
            }
        }

        /** -1 for a point out of the square. */
        private static int placeOfPoint(int x, int y) {
            if (x < -FAR || x > FAR || y < -FAR || y > FAR) {
                return -1;
            }
            return (x + FAR) * WIDTH + y + FAR;
        }
    }

    /** The corners of the lower side of a hull. */
    private static final class HullRow {
        int count = 0;
        private final int[] xs = new int[GREATEST_FRACTION + 1];
        private final int[] ys = new int[GREATEST_FRACTION + 1];

        void build(int p, int q) {
            count = 0;
            for (int x = 0; x <= q; x++) {
                int y = lowest(p, q, x);
                for (int corner = count - 1; corner > 0; corner--) {
                    if (turn(corner - 1, corner, x, y) > 0) {
                        break;
                    }
                    count--;
                }
                add(x, y);
            }
        }

        /** The least y with y * q above p * x. */
        private static int lowest(int p, int q, int x) {
            return q < 1 ? 0 : p * x / q + 1;
        }

        private void add(int x, int y) {
            if (count >= 0 && count < xs.length && count < ys.length) {
                xs[count] = x;
                ys[count] = y;
                count++;
            }
        }

        int xOf(int corner) {
            return corner >= 0 && corner < xs.length ? xs[corner] : 0;
        }

        int yOf(int corner) {
            return corner >= 0 && corner < ys.length ? ys[corner] : 0;
        }

        private int turn(int corner, int next, int x, int y) {
            return (xOf(next) - xOf(corner)) * (y - yOf(corner))
                    - (yOf(next) - yOf(corner)) * (x - xOf(corner));
        }

        boolean bendsUp() {
            for (int corner = 1; corner + 1 < count; corner++) {
                if (turn(corner - 1, corner, xOf(corner + 1), yOf(corner + 1)) <= 0) {
                    return false;
                }
            }
            return true;
        }

        boolean liesBelowAll(int p, int q) {
            for (int corner = 0; corner + 1 < count; corner++) {
                for (int x = xOf(corner); x <= xOf(corner + 1); x++) {
                    if (turn(corner, corner + 1, x, lowest(p, q, x)) < 0) {
                        return false;
                    }
                }
            }
            return count > 1 && xOf(0) == 0 && xOf(count - 1) == q;
        }
    }
}
