import java.util.ArrayList;
import java.util.List;
import java.util.NoSuchElementException;

/** Promises 41 to 44: terms, against putting them together again, and hulls, against all their points. */
public final class TermAndHullTest {
    private static final Check CHECK = new Check();

    public static void main(String[] args) {
        for (int p = 1; p <= 200; p++) {
            for (int q = 1; q <= 200; q += p % 5 == 0 ? 1 : 7) {
                compareTerms(p, q);
            }
        }
        writtenTerms();
        for (int p = 1; p <= 30; p++) {
            for (int q = 1; q <= 30; q++) {
                compareHull(p, q);
            }
        }
        for (int round = 0; round < 60; round++) {
            compareHull(CHECK.draw(1, 200), CHECK.draw(1, 200));
        }
        compareHull(200, 199);
        compareHull(199, 200);
        compareHull(200, 200);
        compareHull(1, 200);
        compareHull(200, 1);
        compareHull(144, 89);
        writtenHulls();
        edges();
        CHECK.end();
    }

    private static void compareTerms(int p, int q) {
        Latticeyard yard = new Latticeyard();
        int count = yard.terms(p, q);
        // From the last term on, each one plus the turned rest is the fraction again.
        long over = 1;
        long under = 0;
        for (int index = count - 1; index >= 0; index--) {
            int term = yard.termAt(p, q, index);
            CHECK.yes("term above 0 " + p + " " + q, term > 0 || (index == 0 && p < q));
            long next = term * over + under;
            under = over;
            over = next;
        }
        CHECK.due("terms " + p + " " + q, over * q, under * p);
        CHECK.yes("last term " + p + " " + q, count == 1 || yard.termAt(p, q, count - 1) > 1);
        CHECK.refused("term over", yard, NoSuchElementException.class, () -> yard.termAt(p, q, count));
        CHECK.refused("term -1", yard, NoSuchElementException.class, () -> yard.termAt(p, q, -1));
    }

    private static void writtenTerms() {
        Latticeyard yard = new Latticeyard();
        CHECK.due("terms 200 200", yard.terms(200, 200), 1);
        CHECK.due("term 200 200", yard.termAt(200, 200, 0), 1);
        CHECK.due("terms 200 1", yard.terms(200, 1), 1);
        CHECK.due("term 200 1", yard.termAt(200, 1, 0), 200);
        CHECK.due("terms 1 200", yard.terms(1, 200), 2);
        CHECK.due("term 1 200", yard.termAt(1, 200, 1), 200);
        CHECK.due("terms 144 89", yard.terms(144, 89), 10);
        CHECK.due("terms 43 30", yard.terms(43, 30), 4);
        CHECK.due("its last", yard.termAt(43, 30, 3), 4);
        CHECK.due("like 5 / 7", yard.terms(10, 14), 4);
    }

    /** A point is a corner if it is an end, or below all lines from one ahead of it to one behind it. */
    private static void compareHull(int p, int q) {
        Latticeyard yard = new Latticeyard();
        int[] low = new int[q + 1];
        for (int x = 0; x <= q; x++) {
            while (low[x] * q <= p * x) {
                low[x]++;
            }
        }
        List<Integer> corners = new ArrayList<>();
        for (int x = 0; x <= q; x++) {
            if (isCorner(low, x)) {
                corners.add(1000 * x + low[x]);
            }
        }
        String what = p + " " + q;
        CHECK.due("hull " + what, yard.hull(p, q), corners.size());
        for (int index = 0; index < corners.size(); index++) {
            CHECK.due("hullAt " + what + " " + index, yard.hullAt(p, q, index), corners.get(index));
        }
        Class<NoSuchElementException> none = NoSuchElementException.class;
        CHECK.refused("hullAt over", yard, none, () -> yard.hullAt(p, q, corners.size()));
        CHECK.refused("hullAt -1", yard, none, () -> yard.hullAt(p, q, -1));
    }

    private static boolean isCorner(int[] low, int x) {
        for (int one = 0; one < x; one++) {
            for (int other = x + 1; other < low.length; other++) {
                if ((low[x] - low[one]) * (other - one) >= (low[other] - low[one]) * (x - one)) {
                    return false;
                }
            }
        }
        return true;
    }

    private static void writtenHulls() {
        Latticeyard yard = new Latticeyard();
        int[] due = {1, 1001, 4003, 7006};
        for (int index = 0; index < 4; index++) {
            CHECK.due("hullAt 5 7 " + index, yard.hullAt(5, 7, index), due[index]);
        }
        CHECK.due("a hull of two ends", yard.hull(3, 1), 2);
        CHECK.due("its end", yard.hullAt(3, 1, 1), 1004);
        CHECK.due("no bend on a line", yard.hull(200, 200), 2);
        CHECK.due("its end", yard.hullAt(200, 200, 1), 200201);
    }

    private static void edges() {
        Latticeyard yard = new Latticeyard();
        Class<IllegalArgumentException> out = IllegalArgumentException.class;
        int[][] wrong = {{0, 1}, {201, 1}, {1, 0}, {1, 201}, {-1, 1}, {1, Integer.MIN_VALUE}};
        for (int[] pair : wrong) {
            CHECK.refused("terms", yard, out, () -> yard.terms(pair[0], pair[1]));
            CHECK.refused("termAt", yard, out, () -> yard.termAt(pair[0], pair[1], -1));
            CHECK.refused("hull", yard, out, () -> yard.hull(pair[0], pair[1]));
            CHECK.refused("hullAt", yard, out, () -> yard.hullAt(pair[0], pair[1], -1));
        }
    }
}
