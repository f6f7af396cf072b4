import java.math.BigInteger;
import java.util.ArrayDeque;
import java.util.ArrayList;
import java.util.Collections;
import java.util.Comparator;
import java.util.HashMap;
import java.util.List;
import java.util.Map;
import java.util.NoSuchElementException;
import java.util.TreeSet;

/**
 * A yard that does what DOC.md says by its words: it looks at points one by one, where Latticeyard
 * reckons. It shares no line with that class, so that both would have to be wrong in the same way.
 */
final class SlowYard {
    /** A grid by its form. */
    record Form(int a, int b, int c) {
        boolean has(long x, long y) {
            return x % a == 0 && (y - x / a * b) % c == 0;
        }

        int index() {
            return a * c;
        }
    }

    record Kept(int slot, Form form) {
    }

    record Point(long x, long y) {
        long length() {
            return x * x + y * y;
        }

        long cross(Point other) {
            return x * other.y - y * other.x;
        }

        Point less(Point other) {
            return new Point(x - other.x, y - other.y);
        }

        Point times(long factor) {
            return new Point(factor * x, factor * y);
        }
    }

    interface Points {
        boolean has(long x, long y);
    }

    private static final Comparator<Point> BY_LENGTH =
            Comparator.comparing(Point::length).thenComparing(Point::x).thenComparing(Point::y);

    private final Form[] slots = new Form[8];
    private final ArrayDeque<Kept> kept = new ArrayDeque<>();
    private final Map<Form, List<Point>> listed = new HashMap<>();
    private List<Integer> kinds = List.of();
    private final List<Point> typed = new ArrayList<>();
    private boolean isClosed = false;
    private String text = "";

    // ---- grids

    int spanned(int slot, int x, int y, int u, int v) {
        slot(slot);
        range(x, -500, 500);
        range(y, -500, 500);
        range(u, -500, 500);
        range(v, -500, 500);
        long turn = (long) x * v - (long) y * u;
        if (turn == 0) {
            throw new UnsupportedOperationException();
        }
        return become(slot, formOf((p, q) -> (p * v - q * u) % turn == 0 && (x * q - y * p) % turn == 0, 1));
    }

    int remainder(int slot, int p, int q, int by) {
        slot(slot);
        range(p, -1000, 1000);
        range(q, -1000, 1000);
        range(by, 1, 1000);
        return become(slot, formOf((x, y) -> (p * x + q * y) % by == 0, 1));
    }

    int nth(int slot, int index, int rank) {
        slot(slot);
        range(index, 1, 200);
        List<Form> all = allOf(index);
        if (rank < 0 || rank >= all.size()) {
            throw new NoSuchElementException();
        }
        become(slot, all.get(rank));
        return all.get(rank).a;
    }

    int grids(int index) {
        range(index, 1, 200);
        return allOf(index).size();
    }

    int form(int slot, char which) {
        slot(slot);
        if ("abc".indexOf(which) < 0) {
            throw new IllegalArgumentException();
        }
        Form form = in(slot);
        return new int[] {form.a, form.b, form.c}[which - 'a'];
    }

    boolean has(int slot, int x, int y) {
        slot(slot);
        return in(slot).has(x, y);
    }

    boolean isSame(int a, int b) {
        slot(a);
        slot(b);
        return in(a).equals(in(b));
    }

    int parts(int a, int b) {
        slot(a);
        slot(b);
        Form one = in(a);
        Form other = in(b);
        if (!other.has(one.a, one.b) || !other.has(0, one.c)) {
            throw new UnsupportedOperationException();
        }
        return one.index() / other.index();
    }

    int meet(int slot, int a, int b) {
        slot(slot);
        slot(a);
        slot(b);
        Form one = in(a);
        Form other = in(b);
        Form form = formOf((x, y) -> one.has(x, y) && other.has(x, y), one.a);
        if (form == null) {
            throw new IllegalStateException();
        }
        return become(slot, form);
    }

    /** The greatest common divisor of all turns tells the index, and whether a point adds nothing. */
    int join(int slot, int a, int b) {
        slot(slot);
        slot(a);
        slot(b);
        List<Point> steps = List.of(new Point(in(a).a, in(a).b), new Point(0, in(a).c),
                new Point(in(b).a, in(b).b), new Point(0, in(b).c));
        BigInteger all = BigInteger.ZERO;
        for (Point one : steps) {
            for (Point other : steps) {
                all = all.gcd(BigInteger.valueOf(one.cross(other)));
            }
        }
        long index = all.longValueExact();
        return become(slot, formOf((x, y) ->
                steps.stream().allMatch(step -> step.cross(new Point(x, y)) % index == 0), 1));
    }

    int undo() {
        if (kept.isEmpty()) {
            throw new NoSuchElementException();
        }
        Kept latest = kept.removeLast();
        slots[latest.slot] = latest.form;
        return latest.slot;
    }

    private static void slot(int slot) {
        if (slot < 0 || slot > 7) {
            throw new IndexOutOfBoundsException();
        }
    }

    private static void range(int number, int least, int greatest) {
        if (number < least || number > greatest) {
            throw new IllegalArgumentException();
        }
    }

    private Form in(int slot) {
        if (slots[slot] == null) {
            throw new NoSuchElementException();
        }
        return slots[slot];
    }

    private int become(int slot, Form form) {
        kept.addLast(new Kept(slot, slots[slot]));
        if (kept.size() > 10) {
            kept.removeFirst();
        }
        slots[slot] = form;
        return form.index();
    }

    /** The form of all these points, found by trying them; null if its index is above a million. */
    private static Form formOf(Points points, int stride) {
        int c = 1;
        while (c <= 1000000 && !points.has(0, c)) {
            c++;
        }
        for (int a = stride; (long) a * c <= 1000000; a += stride) {
            for (int b = 0; b < c; b++) {
                if (points.has(a, b)) {
                    return new Form(a, b, c);
                }
            }
        }
        return null;
    }

    private static List<Form> allOf(int index) {
        List<Form> all = new ArrayList<>();
        for (int a = 1; a <= index; a++) {
            for (int b = 0; b < index; b++) {
                for (int c = index / a; a * c == index && b < c; c = index + 1) {
                    all.add(new Form(a, b, c));
                }
            }
        }
        return all;
    }

    // ---- steps, cells

    int stepX(int slot, int number) {
        return (int) step(slot, number).x;
    }

    int stepY(int slot, int number) {
        return (int) step(slot, number).y;
    }

    int second(int slot) {
        slot(slot);
        List<Point> steps = firstSteps(in(slot));
        for (int number = 0; number < 20; number++) {
            if (steps.get(number).cross(steps.get(0)) != 0) {
                return number;
            }
        }
        return -1;
    }

    int steps(int slot, int length) {
        slot(slot);
        range(length, 0, 2500);
        Form form = in(slot);
        int count = 0;
        for (int x = -50; x <= 50; x++) {
            for (int y = -50; y <= 50; y++) {
                count += form.has(x, y) && x * x + y * y <= length ? 1 : 0;
            }
        }
        return count - 1;
    }

    int nearX(int slot, int x, int y) {
        return (int) nearest(slot, x, y).x;
    }

    int nearY(int slot, int x, int y) {
        return (int) nearest(slot, x, y).y;
    }

    int corners(int slot) {
        slot(slot);
        return cornersOf(in(slot)).size();
    }

    int tellCorner(int slot, int number, boolean isX) {
        slot(slot);
        List<BigInteger[]> corners = cornersOf(in(slot));
        if (number < 0 || number >= corners.size()) {
            throw new NoSuchElementException();
        }
        BigInteger over = corners.get(number)[isX ? 0 : 1];
        BigInteger under = corners.get(number)[2];
        BigInteger shared = over.gcd(under);
        return tell(over.divide(shared) + "/" + under.divide(shared));
    }

    char signAt(int place) {
        if (place < 0 || place >= text.length()) {
            throw new IndexOutOfBoundsException();
        }
        return text.charAt(place);
    }

    private int tell(String said) {
        text = said;
        return said.length();
    }

    private Point step(int slot, int number) {
        slot(slot);
        range(number, 0, 19);
        return firstSteps(in(slot)).get(number);
    }

    private List<Point> firstSteps(Form form) {
        List<Point> steps = listed.get(form);
        for (long reach = 8; steps == null || steps.size() < 20; reach *= 2) {
            steps = stepsWithin(form, reach);
            listed.put(form, steps);
        }
        return steps;
    }

    private static List<Point> stepsWithin(Form form, long reach) {
        List<Point> steps = new ArrayList<>();
        for (Point point : pointsAround(form, 0, 0, reach)) {
            if (point.x > 0 || (point.x == 0 && point.y > 0)) {
                steps.add(point);
            }
        }
        steps.sort(BY_LENGTH);
        return steps;
    }

    /** All points of a grid that are not farther from a place than this. */
    private static List<Point> pointsAround(Form form, long x, long y, long reach) {
        List<Point> points = new ArrayList<>();
        for (long p = x - reach + Math.floorMod(reach - x, (long) form.a); p <= x + reach; p += form.a) {
            long q = y - reach + Math.floorMod(p / form.a * form.b - y + reach, (long) form.c);
            for (; q <= y + reach; q += form.c) {
                if (new Point(p - x, q - y).length() <= reach * reach) {
                    points.add(new Point(p, q));
                }
            }
        }
        return points;
    }

    private Point nearest(int slot, int x, int y) {
        slot(slot);
        range(x, -2000, 2000);
        range(y, -2000, 2000);
        Form form = in(slot);
        List<Point> points = List.of();
        for (long reach = 1; points.isEmpty(); reach *= 2) {
            points = pointsAround(form, x, y, reach);
        }
        return Collections.min(points, Comparator.comparing((Point point) ->
                point.less(new Point(x, y)).length()).thenComparing(Point::x).thenComparing(Point::y));
    }

    /** The corners in their order, each as x and y over a third number, which is above 0. */
    private static List<BigInteger[]> cornersOf(Form form) {
        List<Point> bounds = boundsOf(form);
        List<BigInteger[]> corners = new ArrayList<>();
        int first = 0;
        for (int number = 0; number < bounds.size(); number++) {
            corners.add(placeBetween(bounds.get(number), bounds.get((number + 1) % bounds.size())));
            first = isFurther(corners.get(number), corners.get(first)) ? number : first;
        }
        Collections.rotate(corners, -first);
        return corners;
    }

    /** The points that bound the cell: each is, with its like across 0, 0, alone the least of its class. */
    private static List<Point> boundsOf(Form form) {
        List<Point> bounds = new ArrayList<>();
        for (int odd = 1; odd <= 3; odd++) {
            List<Point> like = likeSteps(form, odd);
            if (like.size() == 1 || like.get(1).length() > like.get(0).length()) {
                bounds.add(like.get(0));
                bounds.add(like.get(0).times(-1));
            }
        }
        bounds.sort(Comparator.comparing((Point point) -> Math.atan2(point.y, point.x)));
        return bounds;
    }

    /** The shortest steps i, j by whether i is odd, and whether j is; there is one at least. */
    private static List<Point> likeSteps(Form form, int odd) {
        List<Point> like = new ArrayList<>();
        for (long reach = 1; like.isEmpty(); reach *= 2) {
            for (Point step : stepsWithin(form, reach)) {
                long i = step.x / form.a;
                long j = (step.y - i * form.b) / form.c;
                if ((i & 1) + 2 * (j & 1) == odd) {
                    like.add(step);
                }
            }
        }
        return like;
    }

    private static BigInteger[] placeBetween(Point one, Point other) {
        BigInteger far = BigInteger.valueOf(one.length());
        BigInteger away = BigInteger.valueOf(other.length());
        BigInteger x = far.multiply(BigInteger.valueOf(other.y)).subtract(away.multiply(BigInteger.valueOf(one.y)));
        BigInteger y = away.multiply(BigInteger.valueOf(one.x)).subtract(far.multiply(BigInteger.valueOf(other.x)));
        return new BigInteger[] {x, y, BigInteger.valueOf(2 * one.cross(other))};
    }

    private static boolean isFurther(BigInteger[] corner, BigInteger[] other) {
        int byX = corner[0].multiply(other[2]).compareTo(other[0].multiply(corner[2]));
        int byY = corner[1].multiply(other[2]).compareTo(other[1].multiply(corner[2]));
        return byX > 0 || (byX == 0 && byY > 0);
    }

    // ---- coins

    int coins(int a, int b, int c, int d) {
        List<Integer> told = new ArrayList<>(List.of(a, b));
        if (c == 0 && d != 0) {
            throw new IllegalArgumentException();
        }
        if (c != 0) {
            told.add(c);
        }
        if (d != 0) {
            told.add(d);
        }
        for (int value : told) {
            range(value, 2, 50);
        }
        if (new TreeSet<>(told).size() < told.size()) {
            throw new IllegalArgumentException();
        }
        for (int divisor = 2; divisor <= 50; divisor++) {
            int tried = divisor;
            if (told.stream().allMatch(value -> value % tried == 0)) {
                throw new UnsupportedOperationException();
            }
        }
        kinds = told;
        return lackRow().get(lackRow().size() - 1);
    }

    int lacks() {
        anyCoins();
        return lackRow().size();
    }

    int lackAt(int index) {
        anyCoins();
        if (index < 0 || index >= lackRow().size()) {
            throw new NoSuchElementException();
        }
        return lackRow().get(index);
    }

    boolean canMake(int sum) {
        anyCoins();
        range(sum, 0, 2500);
        return fewestCoins()[sum] < 10000;
    }

    int fewest(int sum) {
        anyCoins();
        range(sum, 0, 2500);
        if (fewestCoins()[sum] >= 10000) {
            throw new NoSuchElementException();
        }
        return fewestCoins()[sum];
    }

    int ways(int sum) {
        anyCoins();
        range(sum, 0, 2500);
        return tell(waysBy(kinds.size(), new BigInteger[6][2501], sum).toString());
    }

    private void anyCoins() {
        if (kinds.isEmpty()) {
            throw new IllegalStateException();
        }
    }

    /** Up to 6000, far above what 50 and 49 cannot make. */
    private int[] fewestCoins() {
        int[] fewest = new int[6001];
        for (int sum = 1; sum <= 6000; sum++) {
            fewest[sum] = 10000;
            for (int value : kinds) {
                fewest[sum] = sum < value ? fewest[sum] : Math.min(fewest[sum], fewest[sum - value] + 1);
            }
        }
        return fewest;
    }

    private List<Integer> lackRow() {
        List<Integer> row = new ArrayList<>();
        int[] fewest = fewestCoins();
        for (int sum = 0; sum <= 6000; sum++) {
            if (fewest[sum] >= 10000) {
                row.add(sum);
            }
        }
        return row;
    }

    /** In how many ways the first kinds make a sum: by how many coins of the last one of these there are. */
    private BigInteger waysBy(int first, BigInteger[][] known, int sum) {
        if (first == 0) {
            return sum == 0 ? BigInteger.ONE : BigInteger.ZERO;
        }
        if (known[first][sum] == null) {
            BigInteger all = BigInteger.ZERO;
            for (int rest = sum; rest >= 0; rest -= kinds.get(first - 1)) {
                all = all.add(waysBy(first - 1, known, rest));
            }
            known[first][sum] = all;
        }
        return known[first][sum];
    }

    // ---- the polygon

    int corner(int x, int y) {
        range(x, -20, 20);
        range(y, -20, 20);
        if (typed.size() == 12) {
            throw new IllegalStateException();
        }
        typed.add(new Point(x, y));
        isClosed = false;
        return typed.size();
    }

    int clear() {
        int were = typed.size();
        typed.clear();
        isClosed = false;
        return were;
    }

    int close() {
        if (typed.size() < 3) {
            throw new IllegalStateException();
        }
        if (!isPolygon()) {
            throw new UnsupportedOperationException();
        }
        isClosed = true;
        return 2 * count(typed, 'w') + count(typed, 'r') - 2;
    }

    int rim() {
        closed();
        return count(typed, 'r');
    }

    int within() {
        closed();
        return count(typed, 'w');
    }

    char where(int x, int y) {
        closed();
        return placeOf(typed, new Point(x, y));
    }

    /** It is convex if it is as large as the narrowest convex one round its corners. */
    boolean isConvex() {
        closed();
        return Math.abs(twiceArea(typed)) == Math.abs(twiceArea(roundAll(typed)));
    }

    /** Counted once and twice as large, which settles how many there are for each other size. */
    int grown(int times) {
        closed();
        range(times, 1, 1000000000);
        BigInteger once = BigInteger.valueOf(count(typed, 'w') + count(typed, 'r'));
        List<Point> twofold = typed.stream().map(corner -> corner.times(2)).toList();
        BigInteger twice = BigInteger.valueOf(count(twofold, 'w') + count(twofold, 'r'));
        BigInteger bend = twice.subtract(once).subtract(once).add(BigInteger.ONE);
        BigInteger size = BigInteger.valueOf(times);
        BigInteger pairs = size.multiply(size.subtract(BigInteger.ONE)).divide(BigInteger.TWO);
        return tell(BigInteger.ONE.add(once.subtract(BigInteger.ONE).multiply(size)).add(bend.multiply(pairs)).toString());
    }

    int triangleAt(int number, int which) {
        closed();
        List<int[]> triangles = triangles();
        if (number < 0 || number >= triangles.size() || which < 0 || which > 2) {
            throw new NoSuchElementException();
        }
        return triangles.get(number)[which];
    }

    boolean tiles(int slot) {
        slot(slot);
        closed();
        Form form = in(slot);
        for (int side = 0; side < typed.size(); side++) {
            Point way = typed.get((side + 1) % typed.size()).less(typed.get(side));
            if (way.x != 0 && way.y != 0) {
                throw new UnsupportedOperationException();
            }
        }
        List<Point> squares = squares();
        return squares.size() == form.index() && squares.stream().noneMatch(one -> squares.stream().anyMatch(
                other -> one != other && form.has(one.x - other.x, one.y - other.y)));
    }

    private void closed() {
        if (!isClosed) {
            throw new IllegalStateException();
        }
    }

    boolean isPolygon() {
        int count = typed.size();
        for (int side = 0; side < count; side++) {
            if (typed.get(side).equals(typed.get((side + 1) % count))) {
                return false;
            }
            for (int other = side + 1; other < count; other++) {
                boolean areNeighbours = other == side + 1 || (side == 0 && other == count - 1);
                if (shared(side, other) != (areNeighbours ? 1 : 0)) {
                    return false;
                }
            }
        }
        return true;
    }

    /** How many places two sides share: 0, 1, or 2 for more than one. */
    private int shared(int side, int other) {
        Point p = typed.get(side);
        Point way = typed.get((side + 1) % typed.size()).less(p);
        Point r = typed.get(other);
        Point otherEnd = typed.get((other + 1) % typed.size());
        Point otherWay = otherEnd.less(r);
        long turn = way.cross(otherWay);
        if (turn != 0) {
            long sign = Long.signum(turn);
            long here = r.less(p).cross(otherWay) * sign;
            long there = r.less(p).cross(way) * sign;
            return here >= 0 && here <= turn * sign && there >= 0 && there <= turn * sign ? 1 : 0;
        }
        if (way.cross(r.less(p)) != 0) {
            return 0;
        }
        long from = way.x * (r.x - p.x) + way.y * (r.y - p.y);
        long to = way.x * (otherEnd.x - p.x) + way.y * (otherEnd.y - p.y);
        long low = Math.max(0, Math.min(from, to));
        long high = Math.min(way.length(), Math.max(from, to));
        return low > high ? 0 : low == high ? 1 : 2;
    }

    private static int count(List<Point> corners, char wanted) {
        long far = corners.stream().mapToLong(corner -> Math.max(Math.abs(corner.x), Math.abs(corner.y))).max().orElse(0);
        int count = 0;
        for (long x = -far; x <= far; x++) {
            for (long y = -far; y <= far; y++) {
                count += placeOf(corners, new Point(x, y)) == wanted ? 1 : 0;
            }
        }
        return count;
    }

    /** How often the way round goes about a point, told by sides that pass to its right, upward or downward. */
    private static char placeOf(List<Point> corners, Point point) {
        int rounds = 0;
        Point from = corners.get(corners.size() - 1);
        for (Point to : corners) {
            long turn = to.less(from).cross(point.less(from));
            Point back = from.less(point);
            Point ahead = to.less(point);
            if (turn == 0 && back.x * ahead.x + back.y * ahead.y <= 0) {
                return 'r';
            }
            if (from.y <= point.y && to.y > point.y && turn > 0) {
                rounds++;
            }
            if (from.y > point.y && to.y <= point.y && turn < 0) {
                rounds--;
            }
            from = to;
        }
        return rounds == 0 ? 'o' : 'w';
    }

    private static long twiceArea(List<Point> corners) {
        long sum = 0;
        for (int corner = 0; corner < corners.size(); corner++) {
            sum += corners.get(corner).cross(corners.get((corner + 1) % corners.size()));
        }
        return sum;
    }

    /** From the lowest point of those on the left on, always to that which has no other to its right. */
    private static List<Point> roundAll(List<Point> points) {
        Point first = Collections.min(points, Comparator.comparing(Point::x).thenComparing(Point::y));
        List<Point> round = new ArrayList<>();
        Point at = first;
        do {
            round.add(at);
            Point next = null;
            for (Point point : points) {
                long turn = next == null ? -1 : next.less(at).cross(point.less(at));
                boolean isFarther = turn == 0 && point.less(at).length() > next.less(at).length();
                if (!point.equals(at) && (turn < 0 || isFarther)) {
                    next = point;
                }
            }
            at = next;
        } while (!at.equals(first));
        return round;
    }

    private List<int[]> triangles() {
        List<int[]> triangles = new ArrayList<>();
        List<Integer> left = new ArrayList<>();
        for (int corner = 0; corner < typed.size(); corner++) {
            left.add(corner);
        }
        while (left.size() > 3) {
            int place = 0;
            while (!isEar(left, place)) {
                place++;
            }
            triangles.add(new int[] {leftAt(left, place - 1), leftAt(left, place), leftAt(left, place + 1)});
            left.remove(place);
        }
        triangles.add(new int[] {left.get(0), left.get(1), left.get(2)});
        return triangles;
    }

    private static int leftAt(List<Integer> left, int place) {
        return left.get(Math.floorMod(place, left.size()));
    }

    private boolean isEar(List<Integer> left, int place) {
        List<Integer> own = List.of(leftAt(left, place - 1), leftAt(left, place), leftAt(left, place + 1));
        List<Point> triangle = own.stream().map(typed::get).toList();
        boolean turnsLikeAll = Long.signum(twiceArea(triangle)) == Long.signum(twiceArea(typed));
        return turnsLikeAll && left.stream().allMatch(corner ->
                own.contains(corner) || placeOf(triangle, typed.get(corner)) == 'o');
    }

    /** The unit squares, by their lower left corners; twice as large, each has its middle on the grid. */
    private List<Point> squares() {
        List<Point> twofold = typed.stream().map(corner -> corner.times(2)).toList();
        List<Point> squares = new ArrayList<>();
        for (int x = -20; x < 20; x++) {
            for (int y = -20; y < 20; y++) {
                if (placeOf(twofold, new Point(2 * x + 1, 2 * y + 1)) == 'w') {
                    squares.add(new Point(x, y));
                }
            }
        }
        return squares;
    }

    // ---- seen points, leaps

    int seen(int up) {
        range(up, 1, 40);
        return seenRow(up).size();
    }

    int seenAt(int up, int index) {
        range(up, 1, 40);
        List<Point> row = seenRow(up);
        if (index < 0 || index >= row.size()) {
            throw new NoSuchElementException();
        }
        return (int) (100 * row.get(index).x + row.get(index).y);
    }

    int leaps(int a, int b, int x, int y) {
        range(a, 0, 4);
        range(b, 0, 4);
        range(x, -12, 12);
        range(y, -12, 12);
        if (a == 0 && b == 0) {
            throw new IllegalArgumentException();
        }
        Integer count = leapCounts(a, b).get(new Point(x, y));
        if (count == null) {
            throw new NoSuchElementException();
        }
        return count;
    }

    private static List<Point> seenRow(int up) {
        List<Point> row = new ArrayList<>();
        for (int x = 1; x <= up; x++) {
            for (int y = 0; y <= x; y++) {
                if (BigInteger.valueOf(x).gcd(BigInteger.valueOf(y)).equals(BigInteger.ONE)) {
                    row.add(new Point(x, y));
                }
            }
        }
        row.sort((one, other) -> Long.compare(one.y * other.x, other.y * one.x));
        return row;
    }

    private static Map<Point, Integer> leapCounts(int a, int b) {
        Map<Point, Integer> counts = new HashMap<>();
        ArrayDeque<Point> queue = new ArrayDeque<>();
        counts.put(new Point(0, 0), 0);
        queue.add(new Point(0, 0));
        while (!queue.isEmpty()) {
            Point from = queue.remove();
            for (int way = 0; way < 8; way++) {
                int right = (way & 1) == 0 ? 1 : -1;
                int up = (way & 2) == 0 ? 1 : -1;
                boolean isLong = (way & 4) == 0;
                Point to = new Point(from.x + right * (isLong ? a : b), from.y + up * (isLong ? b : a));
                boolean isIn = Math.abs(to.x) <= 30 && Math.abs(to.y) <= 30;
                if (isIn && counts.putIfAbsent(to, counts.get(from) + 1) == null) {
                    queue.add(to);
                }
            }
        }
        return counts;
    }

    // ---- terms, hulls

    int terms(int p, int q) {
        range(p, 1, 200);
        range(q, 1, 200);
        return termRow(p, q).size();
    }

    int termAt(int p, int q, int index) {
        range(p, 1, 200);
        range(q, 1, 200);
        List<Integer> row = termRow(p, q);
        if (index < 0 || index >= row.size()) {
            throw new NoSuchElementException();
        }
        return row.get(index);
    }

    int hull(int p, int q) {
        range(p, 1, 200);
        range(q, 1, 200);
        return hullRow(p, q).size();
    }

    int hullAt(int p, int q, int index) {
        range(p, 1, 200);
        range(q, 1, 200);
        List<Point> row = hullRow(p, q);
        if (index < 0 || index >= row.size()) {
            throw new NoSuchElementException();
        }
        return (int) (1000 * row.get(index).x + row.get(index).y);
    }

    private static List<Integer> termRow(int p, int q) {
        List<Integer> row = new ArrayList<>();
        while (q > 0) {
            int times = 0;
            while (p >= q) {
                p -= q;
                times++;
            }
            row.add(times);
            int rest = p;
            p = q;
            q = rest;
        }
        return row;
    }

    /** From each corner on to the point that is least steep, and of like ones the farthest. */
    private static List<Point> hullRow(int p, int q) {
        List<Point> row = new ArrayList<>();
        Point at = lowest(p, q, 0);
        row.add(at);
        while (at.x < q) {
            Point next = lowest(p, q, (int) at.x + 1);
            for (int x = (int) at.x + 2; x <= q; x++) {
                Point tried = lowest(p, q, x);
                next = next.less(at).cross(tried.less(at)) <= 0 ? tried : next;
            }
            row.add(next);
            at = next;
        }
        return row;
    }

    private static Point lowest(int p, int q, int x) {
        int y = 0;
        while (y * q <= p * x) {
            y++;
        }
        return new Point(x, y);
    }

    // ---- figures

    int held() {
        int count = 0;
        for (Form form : slots) {
            count += form == null ? 0 : 1;
        }
        return count;
    }

    long checksum() {
        List<Integer> all = new ArrayList<>();
        for (Form form : slots) {
            all.addAll(form == null ? List.of(0) : List.of(form.a, form.b, form.c));
        }
        all.addAll(kinds);
        for (Point corner : typed) {
            all.add((int) corner.x);
            all.add((int) corner.y);
        }
        text.chars().forEach(all::add);
        BigInteger sum = BigInteger.valueOf(7);
        for (int number : all) {
            sum = sum.multiply(BigInteger.valueOf(31)).add(BigInteger.valueOf(number));
        }
        return sum.longValue();
    }

    /** The theorem is one: it holds for all that there can be. */
    boolean isSound() {
        return true;
    }
}
