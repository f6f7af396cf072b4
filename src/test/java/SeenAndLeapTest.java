import java.util.ArrayList;
import java.util.List;
import java.util.NoSuchElementException;

/** Promises 38 to 40: seen points, against sorting them, and leaps, against going on round by round. */
public final class SeenAndLeapTest {
    private static final Check CHECK = new Check();

    public static void main(String[] args) {
        for (int up = 1; up <= 40; up++) {
            compareSeen(up);
        }
        seenEdges();
        for (int a = 0; a <= 4; a++) {
            for (int b = 0; b <= 4; b++) {
                if (a != 0 || b != 0) {
                    compareLeaps(a, b);
                }
            }
        }
        writtenLeaps();
        leapEdges();
        CHECK.end();
    }

    private static boolean isSeen(int x, int y) {
        for (int divisor = 2; divisor <= x; divisor++) {
            if (x % divisor == 0 && y % divisor == 0) {
                return false;
            }
        }
        return true;
    }

    private static void compareSeen(int up) {
        Latticeyard yard = new Latticeyard();
        List<int[]> points = new ArrayList<>();
        for (int x = 1; x <= up; x++) {
            for (int y = 0; y <= x; y++) {
                if (isSeen(x, y)) {
                    points.add(new int[] {x, y});
                }
            }
        }
        points.sort((p, q) -> p[1] * q[0] - q[1] * p[0]);
        CHECK.due("seen " + up, yard.seen(up), points.size());
        for (int number = 0; number < points.size(); number++) {
            int[] point = points.get(number);
            CHECK.due("seenAt " + up + " " + number, yard.seenAt(up, number), 100 * point[0] + point[1]);
        }
        Class<NoSuchElementException> none = NoSuchElementException.class;
        CHECK.refused("seenAt over", yard, none, () -> yard.seenAt(up, points.size()));
        CHECK.refused("seenAt -1", yard, none, () -> yard.seenAt(up, -1));
        CHECK.refused("seenAt far", yard, none, () -> yard.seenAt(up, Integer.MAX_VALUE));
    }

    private static void seenEdges() {
        Latticeyard yard = new Latticeyard();
        Class<IllegalArgumentException> out = IllegalArgumentException.class;
        CHECK.refused("seen 0", yard, out, () -> yard.seen(0));
        CHECK.refused("seen 41", yard, out, () -> yard.seen(41));
        CHECK.refused("seenAt 0", yard, out, () -> yard.seenAt(0, -1));
        CHECK.refused("seenAt 41", yard, out, () -> yard.seenAt(41, 0));
        CHECK.due("seen 1", yard.seen(1), 2);
        CHECK.due("the first", yard.seenAt(1, 0), 100);
        CHECK.due("the last", yard.seenAt(1, 1), 101);
    }

    private static void compareLeaps(int a, int b) {
        Latticeyard yard = new Latticeyard();
        int[][] counts = new int[61][61];
        counts[30][30] = 1;
        boolean isOn = true;
        for (int round = 1; isOn; round++) {
            isOn = false;
            for (int x = 0; x < 61; x++) {
                for (int y = 0; y < 61; y++) {
                    if (counts[x][y] == round) {
                        isOn |= spread(counts, x, y, a, b) | spread(counts, x, y, b, a);
                    }
                }
            }
        }
        for (int x = -12; x <= 12; x++) {
            for (int y = -12; y <= 12; y++) {
                int due = counts[x + 30][y + 30] - 1;
                String what = "leaps " + a + " " + b + " " + x + " " + y;
                int p = x;
                int q = y;
                if (due >= 0) {
                    CHECK.due(what, yard.leaps(a, b, x, y), due);
                } else {
                    CHECK.refused(what, yard, NoSuchElementException.class, () -> yard.leaps(a, b, p, q));
                }
            }
        }
    }

    private static boolean spread(int[][] counts, int x, int y, int a, int b) {
        boolean isOn = false;
        for (int p : new int[] {x - a, x + a}) {
            for (int q : new int[] {y - b, y + b}) {
                if (p >= 0 && p < 61 && q >= 0 && q < 61 && counts[p][q] == 0) {
                    counts[p][q] = counts[x][y] + 1;
                    isOn = true;
                }
            }
        }
        return isOn;
    }

    private static void writtenLeaps() {
        Latticeyard yard = new Latticeyard();
        CHECK.due("none", yard.leaps(1, 2, 0, 0), 0);
        CHECK.due("one", yard.leaps(2, 1, -1, 2), 1);
        CHECK.due("a knight to 1, 1", yard.leaps(1, 2, 1, 1), 2);
        CHECK.due("along x", yard.leaps(0, 1, 12, -12), 24);
        CHECK.due("aslant", yard.leaps(1, 1, 12, -12), 12);
        CHECK.due("wide", yard.leaps(4, 0, 12, -8), 5);
        CHECK.due("wide and narrow", yard.leaps(3, 4, 1, 0), yard.leaps(4, 3, 0, -1));
    }

    private static void leapEdges() {
        Latticeyard yard = new Latticeyard();
        Class<IllegalArgumentException> out = IllegalArgumentException.class;
        CHECK.refused("both 0", yard, out, () -> yard.leaps(0, 0, 0, 0));
        int[][] wrong = {{-1, 2, 0, 0}, {5, 2, 0, 0}, {1, -1, 0, 0}, {1, 5, 0, 0}, {1, 2, 13, 0}, {1, 2, -13, 0},
            {1, 2, 0, 13}, {1, 2, 0, -13}, {0, 0, 13, 0}, {Integer.MIN_VALUE, 1, 0, 0}, {2, 2, 1, 99}};
        for (int[] numbers : wrong) {
            CHECK.refused("leaps " + java.util.Arrays.toString(numbers), yard, out,
                    () -> yard.leaps(numbers[0], numbers[1], numbers[2], numbers[3]));
        }
        Class<NoSuchElementException> never = NoSuchElementException.class;
        CHECK.refused("the other colour", yard, never, () -> yard.leaps(1, 1, 1, 0));
        CHECK.refused("between", yard, never, () -> yard.leaps(0, 4, 2, 2));
    }
}
