import java.util.ArrayList;
import java.util.Collections;
import java.util.List;
import java.util.NoSuchElementException;

/** Promises 13 to 18: steps and nearest points, against looking at all points of a square. */
public final class StepTest {
    private static final Check CHECK = new Check();

    public static void main(String[] args) {
        smallGrids();
        thinGrids();
        greatGrids();
        stepEdges();
        counts();
        nearest();
        nearestOfGreat();
        nearEdges();
        CHECK.end();
    }

    /** The first twenty steps, found in a square that has them all. */
    private static List<int[]> slowSteps(Latticeyard yard, int slot, int far) {
        List<int[]> all = new ArrayList<>();
        for (int x = 0; x <= far; x++) {
            for (int y = x == 0 ? 1 : -far; y <= far; y++) {
                if (yard.has(slot, x, y) && x * x + y * y <= far * far) {
                    all.add(new int[] {x * x + y * y, x, y});
                }
            }
        }
        Collections.sort(all, (p, q) -> p[0] != q[0] ? p[0] - q[0] : p[1] != q[1] ? p[1] - q[1] : p[2] - q[2]);
        return all;
    }

    private static void compare(Latticeyard yard, int slot, int firstFar) {
        List<int[]> steps = slowSteps(yard, slot, firstFar);
        for (int far = 2 * firstFar; steps.size() < 20; far *= 2) {
            steps = slowSteps(yard, slot, far);
        }
        String grid = "of " + yard.form(slot, 'a') + " " + yard.form(slot, 'b') + " " + yard.form(slot, 'c');
        int aside = -1;
        for (int number = 0; number < 20; number++) {
            int[] step = steps.get(number);
            CHECK.due("stepX " + number + " " + grid, yard.stepX(slot, number), step[1]);
            CHECK.due("stepY " + number + " " + grid, yard.stepY(slot, number), step[2]);
            if (aside < 0 && step[1] * steps.get(0)[2] != step[2] * steps.get(0)[1]) {
                aside = number;
            }
        }
        CHECK.due("second " + grid, yard.second(slot), aside);
    }

    private static void smallGrids() {
        Latticeyard yard = new Latticeyard();
        for (int index = 1; index <= 24; index++) {
            for (int rank = 0; rank < yard.grids(index); rank++) {
                yard.nth(0, index, rank);
                compare(yard, 0, 16);
            }
        }
        for (int rank = 0; rank < yard.grids(198); rank += 3) {
            yard.nth(0, 198, rank);
            compare(yard, 0, 60);
        }
    }

    /** Grids whose second step comes late, or not at all within the first twenty. */
    private static void thinGrids() {
        Latticeyard yard = new Latticeyard();
        for (int wide = 15; wide <= 25; wide++) {
            yard.spanned(0, wide, 0, 0, 1);
            CHECK.due("second of " + wide, yard.second(0), wide <= 19 ? wide : -1);
            compare(yard, 0, 30);
            yard.spanned(0, 1, 0, 0, wide);
            // 0, wide comes ahead of wide, 0, as its x is less.
            CHECK.due("second upright of " + wide, yard.second(0), wide <= 20 ? wide - 1 : -1);
            compare(yard, 0, 30);
        }
        yard.spanned(0, 60, 1, 3, 0);
        compare(yard, 0, 80);
        yard.spanned(0, 41, 83, 1, 2);
        compare(yard, 0, 60);
    }

    private static void greatGrids() {
        Latticeyard yard = new Latticeyard();
        yard.remainder(0, 1, 0, 1000);
        yard.remainder(1, 0, 1, 1000);
        yard.meet(2, 0, 1);
        CHECK.due("first x", yard.stepX(2, 0), 0);
        CHECK.due("first y", yard.stepY(2, 0), 1000);
        CHECK.due("second", yard.second(2), 1);
        CHECK.due("last x", yard.stepX(2, 19), 2000);
        CHECK.due("last y", yard.stepY(2, 19), 3000);
        compare(yard, 2, 5000);
        yard.spanned(3, 500, 499, 499, 500);
        compare(yard, 3, 100);
        yard.spanned(3, 500, 499, -499, 500);
        compare(yard, 3, 4000);
        yard.spanned(3, 500, 0, 499, 500);
        compare(yard, 3, 3000);
        widest(yard);
    }

    /** A form with a 1000000: the yard gets there by meets alone. */
    private static void widest(Latticeyard yard) {
        yard.remainder(4, 1, 0, 1000);
        yard.remainder(5, 1, 0, 999);
        CHECK.due("widest", yard.meet(6, 4, 5), 999000);
        CHECK.due("its a", yard.form(6, 'a'), 999000);
        CHECK.due("its last step", yard.stepY(6, 19), 20);
        CHECK.due("its second", yard.second(6), -1);
        yard.remainder(4, 0, 1, 1000);
        yard.remainder(5, 1, 1, 999);
        CHECK.due("tall", yard.meet(6, 4, 5), 999000);
        CHECK.due("its c", yard.form(6, 'c'), 999000);
        compare(yard, 6, 5000);
    }

    private static void stepEdges() {
        Latticeyard yard = new Latticeyard();
        yard.nth(0, 1, 0);
        Class<IndexOutOfBoundsException> noSlot = IndexOutOfBoundsException.class;
        Class<IllegalArgumentException> out = IllegalArgumentException.class;
        Class<NoSuchElementException> none = NoSuchElementException.class;
        CHECK.refused("stepX slot", yard, noSlot, () -> yard.stepX(8, 20));
        CHECK.refused("stepX slot -1", yard, noSlot, () -> yard.stepX(-1, 0));
        CHECK.refused("stepX number", yard, out, () -> yard.stepX(1, 20));
        CHECK.refused("stepX number -1", yard, out, () -> yard.stepX(0, -1));
        CHECK.refused("stepX none", yard, none, () -> yard.stepX(1, 0));
        CHECK.refused("stepY slot", yard, noSlot, () -> yard.stepY(8, 20));
        CHECK.refused("stepY slot -1", yard, noSlot, () -> yard.stepY(-1, 0));
        CHECK.refused("stepY number", yard, out, () -> yard.stepY(1, 20));
        CHECK.refused("stepY number -1", yard, out, () -> yard.stepY(0, -1));
        CHECK.refused("stepY none", yard, none, () -> yard.stepY(1, 0));
        CHECK.refused("second slot", yard, noSlot, () -> yard.second(8));
        CHECK.refused("second slot -1", yard, noSlot, () -> yard.second(-1));
        CHECK.refused("second none", yard, none, () -> yard.second(1));
        CHECK.refused("steps slot", yard, noSlot, () -> yard.steps(8, -1));
        CHECK.refused("steps slot -1", yard, noSlot, () -> yard.steps(-1, 0));
        CHECK.refused("steps length", yard, out, () -> yard.steps(1, 2501));
        CHECK.refused("steps length -1", yard, out, () -> yard.steps(0, -1));
        CHECK.refused("steps none", yard, none, () -> yard.steps(1, 0));
    }

    private static int slowCount(Latticeyard yard, int slot, int length) {
        int count = 0;
        for (int x = -51; x <= 51; x++) {
            for (int y = -51; y <= 51; y++) {
                boolean isOwn = (x != 0 || y != 0) && x * x + y * y <= length;
                count += isOwn && yard.has(slot, x, y) ? 1 : 0;
            }
        }
        return count;
    }

    private static void counts() {
        Latticeyard yard = new Latticeyard();
        yard.nth(0, 1, 0);
        CHECK.due("length 0", yard.steps(0, 0), 0);
        CHECK.due("length 1", yard.steps(0, 1), 4);
        CHECK.due("length 2", yard.steps(0, 2), 8);
        CHECK.due("length 2500", yard.steps(0, 2500), slowCount(yard, 0, 2500));
        for (int round = 0; round < 400; round++) {
            int far = round < 200 ? 8 : 120;
            int[] by = {CHECK.draw(-far, far), CHECK.draw(-far, far), CHECK.draw(-far, far), CHECK.draw(-far, far)};
            if (by[0] * by[3] == by[1] * by[2]) {
                continue;
            }
            yard.spanned(0, by[0], by[1], by[2], by[3]);
            int length = round % 5 == 0 ? 2500 : CHECK.draw(0, 2500);
            CHECK.due("steps " + length, yard.steps(0, length), slowCount(yard, 0, length));
        }
        yard.spanned(0, 1, 50, 0, 500);
        CHECK.due("upright", yard.steps(0, 2500), slowCount(yard, 0, 2500));
        yard.spanned(0, 50, 0, 0, 50);
        CHECK.due("at the edge", yard.steps(0, 2500), 4);
        CHECK.due("below the edge", yard.steps(0, 2499), 0);
    }

    private static void nearest() {
        Latticeyard yard = new Latticeyard();
        for (int round = 0; round < 3000; round++) {
            int index = CHECK.draw(1, round < 2000 ? 30 : 200);
            yard.nth(0, index, CHECK.draw(0, yard.grids(index) - 1));
            int far = round % 3 == 0 ? 2000 : 12;
            compareNear(yard, 0, CHECK.draw(-far, far), CHECK.draw(-far, far));
        }
        yard.spanned(0, 2, 0, 0, 2);
        CHECK.due("of four like ones the least x", yard.nearX(0, 1, 1), 0);
        CHECK.due("then the least y", yard.nearY(0, 1, 1), 0);
        CHECK.due("also below 0", yard.nearX(0, -1, -1), -2);
        CHECK.due("y also below 0", yard.nearY(0, -1, -1), -2);
    }

    private static void compareNear(Latticeyard yard, int slot, int x, int y) {
        int bestX = 0;
        int bestY = 0;
        int best = Integer.MAX_VALUE;
        // What a square shows is sure once it has all places that are as near as the best one.
        for (int far = 4; far * far / 4 < best; far *= 2) {
            best = Integer.MAX_VALUE;
            for (int p = x - far; p <= x + far; p++) {
                for (int q = y - far; q <= y + far; q++) {
                    int length = (p - x) * (p - x) + (q - y) * (q - y);
                    if (length < best && yard.has(slot, p, q)) {
                        best = length;
                        bestX = p;
                        bestY = q;
                    }
                }
            }
        }
        String grid = " of " + yard.form(slot, 'a') + " " + yard.form(slot, 'b') + " " + yard.form(slot, 'c');
        CHECK.due("nearX " + x + " " + y + grid, yard.nearX(slot, x, y), bestX);
        CHECK.due("nearY " + x + " " + y + grid, yard.nearY(slot, x, y), bestY);
    }

    private static void nearestOfGreat() {
        Latticeyard yard = new Latticeyard();
        for (int round = 0; round < 300; round++) {
            int[] by = {CHECK.draw(-500, 500), CHECK.draw(-500, 500), CHECK.draw(-500, 500), CHECK.draw(-500, 500)};
            if (by[0] * by[3] != by[1] * by[2]) {
                yard.spanned(0, by[0], by[1], by[2], by[3]);
                compareNear(yard, 0, CHECK.draw(-2000, 2000), CHECK.draw(-2000, 2000));
            }
        }
        yard.remainder(1, 1, 0, 1000);
        yard.remainder(2, 1, 0, 999);
        yard.meet(3, 1, 2);
        CHECK.due("thin x", yard.nearX(3, 2000, -2000), 0);
        CHECK.due("thin y", yard.nearY(3, 2000, -2000), -2000);
        yard.remainder(1, 0, 1, 1000);
        yard.remainder(2, 0, 1, 999);
        yard.meet(3, 1, 2);
        CHECK.due("flat x", yard.nearX(3, -2000, 2000), -2000);
        CHECK.due("flat y", yard.nearY(3, -2000, 2000), 0);
    }

    private static void nearEdges() {
        Latticeyard yard = new Latticeyard();
        yard.nth(0, 1, 0);
        Class<IndexOutOfBoundsException> noSlot = IndexOutOfBoundsException.class;
        Class<IllegalArgumentException> out = IllegalArgumentException.class;
        Class<NoSuchElementException> none = NoSuchElementException.class;
        CHECK.due("the point itself", yard.nearX(0, 2000, -2000), 2000);
        CHECK.due("its y", yard.nearY(0, 2000, -2000), -2000);
        CHECK.refused("nearX slot", yard, noSlot, () -> yard.nearX(8, 2001, 0));
        CHECK.refused("nearX slot -1", yard, noSlot, () -> yard.nearX(-1, 0, 0));
        CHECK.refused("nearX x", yard, out, () -> yard.nearX(1, 2001, 0));
        CHECK.refused("nearX x", yard, out, () -> yard.nearX(0, -2001, 0));
        CHECK.refused("nearX y", yard, out, () -> yard.nearX(0, 0, 2001));
        CHECK.refused("nearX y", yard, out, () -> yard.nearX(0, 0, -2001));
        CHECK.refused("nearX none", yard, none, () -> yard.nearX(1, 0, 0));
        CHECK.refused("nearY slot", yard, noSlot, () -> yard.nearY(8, 2001, 0));
        CHECK.refused("nearY slot -1", yard, noSlot, () -> yard.nearY(-1, 0, 0));
        CHECK.refused("nearY x", yard, out, () -> yard.nearY(1, 2001, 0));
        CHECK.refused("nearY x", yard, out, () -> yard.nearY(0, -2001, 0));
        CHECK.refused("nearY y", yard, out, () -> yard.nearY(0, 0, 2001));
        CHECK.refused("nearY y", yard, out, () -> yard.nearY(0, 0, -2001));
        CHECK.refused("nearY none", yard, none, () -> yard.nearY(1, 0, 0));
    }
}
