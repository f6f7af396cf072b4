import java.util.Arrays;
import java.util.List;

/** Drawn runs of 512 calls, sane and insane: only what the document names is thrown, all stays sound. */
public final class LongRunTest {
    private static final Check CHECK = new Check();
    private static final int CALLS = 39;
    private static final int MOST = Integer.MAX_VALUE;
    private static final int[] ODD = {Integer.MIN_VALUE, MOST, -1, 0, 1, 8, 1000000001, -2001, 2501};

    /** For each call, in the order of the face, what it may throw. */
    private static final String[] MAY = {
        "I A U", "I A", "I A N", "A", "I A N", "I N", "I N", "I N U", "I N S", "I N", "N",
        "I A N", "I A N", "I N", "I A N", "I A N", "I A N", "I N", "I N", "I",
        "A U", "S", "S N", "S A", "S A N", "S A",
        "A S", "", "S U", "S", "S", "S", "S", "S A", "S N", "I S N U",
        "A", "A N", "A N"};

    public static void main(String[] args) {
        for (int run = 0; run < 300; run++) {
            Latticeyard yard = new Latticeyard();
            for (int call = 0; call < 512; call++) {
                step(yard, run % 3 == 0 ? 4 : 40);
            }
            CHECK.yes("sound behind run " + run, yard.isSound());
            CHECK.yes("held", yard.held() >= 0 && yard.held() <= 8);
        }
        CHECK.end();
    }

    /** A number that mostly is in range, and one time out of some is not. */
    private static int some(int least, int greatest, int out) {
        return CHECK.draw(1, out) == 1 ? ODD[CHECK.draw(0, ODD.length - 1)] : CHECK.draw(least, greatest);
    }

    private static void step(Latticeyard yard, int out) {
        int which = CHECK.draw(0, CALLS + 3);
        long before = yard.checksum();
        int held = yard.held();
        String text = Check.textOf(yard);
        String answer = Check.answerOf(() -> call(yard, which, out));
        boolean isNumber = answer.charAt(0) == '-' || Character.isDigit(answer.charAt(0));
        if (isNumber) {
            return;
        }
        List<String> may = which < CALLS ? named(MAY[which]) : named("A N");
        CHECK.yes("call " + which + " may throw " + answer, may.contains(answer));
        CHECK.due("checksum behind a refused call " + which, yard.checksum(), before);
        CHECK.due("held behind a refused call " + which, yard.held(), held);
        CHECK.due("text behind a refused call " + which, Check.textOf(yard), text);
    }

    private static List<String> named(String letters) {
        return Arrays.asList(letters.replace("I", "IndexOutOfBoundsException")
                .replace("A", "IllegalArgumentException").replace("U", "UnsupportedOperationException")
                .replace("N ", "NoSuchElementException ").replaceAll("N$", "NoSuchElementException")
                .replace("S ", "IllegalStateException ").replaceAll("S$", "IllegalStateException").split(" "));
    }

    private static long call(Latticeyard yard, int which, int out) {
        int slot = some(0, 7, out);
        int a = some(0, 7, out);
        int b = some(0, 7, out);
        if (which < 11) {
            return callGrids(yard, which, slot, a, b, out);
        }
        if (which < 20) {
            return callSteps(yard, which, slot, out);
        }
        if (which < 26) {
            return callCoins(yard, which, out);
        }
        if (which < 36) {
            return callPolygon(yard, which, slot, out);
        }
        return callOthers(yard, which, out);
    }

    private static long callGrids(Latticeyard yard, int which, int slot, int a, int b, int out) {
        int far = CHECK.draw(0, 1) == 0 ? 6 : 500;
        switch (which) {
            case 0: return yard.spanned(slot, some(-far, far, out), some(-far, far, out),
                    some(-far, far, out), some(-far, far, out));
            case 1: return yard.remainder(slot, some(-2 * far, 2 * far, out), some(-2 * far, 2 * far, out),
                    some(1, 2 * far, out));
            case 2: return yard.nth(slot, some(1, 200, out), some(0, 200, out));
            case 3: return yard.grids(some(1, 200, out));
            case 4: return yard.form(slot, (char) some('a', 'c', out));
            case 5: return yard.has(slot, some(-MOST, MOST, out), some(-MOST, MOST, out)) ? 1 : 0;
            case 6: return yard.isSame(a, b) ? 1 : 0;
            case 7: return yard.parts(a, b);
            case 8: return yard.meet(slot, a, b);
            case 9: return yard.join(slot, a, b);
            default: return yard.undo();
        }
    }

    private static long callSteps(Latticeyard yard, int which, int slot, int out) {
        switch (which) {
            case 11: return yard.stepX(slot, some(0, 19, out));
            case 12: return yard.stepY(slot, some(0, 19, out));
            case 13: return yard.second(slot);
            case 14: return yard.steps(slot, some(0, 2500, out));
            case 15: return yard.nearX(slot, some(-2000, 2000, out), some(-2000, 2000, out));
            case 16: return yard.nearY(slot, some(-2000, 2000, out), some(-2000, 2000, out));
            case 17: return yard.corners(slot);
            case 18: return yard.tellCorner(slot, some(0, 6, out), CHECK.draw(0, 1) == 0);
            default: return yard.signAt(some(0, 9, out));
        }
    }

    private static long callCoins(Latticeyard yard, int which, int out) {
        switch (which) {
            case 20: return yard.coins(some(2, 50, out), some(2, 50, out),
                    CHECK.draw(0, 1) * some(2, 50, out), CHECK.draw(0, 1) * some(2, 50, out));
            case 21: return yard.lacks();
            case 22: return yard.lackAt(some(0, 30, out));
            case 23: return yard.canMake(some(0, 2500, out)) ? 1 : 0;
            case 24: return yard.fewest(some(0, 100, out));
            default: return yard.ways(some(0, 2500, out));
        }
    }

    private static long callPolygon(Latticeyard yard, int which, int slot, int out) {
        switch (which) {
            case 26: return yard.corner(some(-20, 20, out), some(-20, 20, out));
            case 27: return CHECK.draw(0, 3) == 0 ? yard.clear() : 0;
            case 28: return yard.close();
            case 29: return yard.rim();
            case 30: return yard.within();
            case 31: return yard.where(some(-20, 20, out), some(-20, 20, out));
            case 32: return yard.isConvex() ? 1 : 0;
            case 33: return yard.grown(some(1, 1000000000, out));
            case 34: return yard.triangleAt(some(0, 3, out), some(0, 2, out));
            default: return yard.tiles(slot) ? 1 : 0;
        }
    }

    private static long callOthers(Latticeyard yard, int which, int out) {
        switch (which) {
            case 36: return yard.seen(some(1, 40, out));
            case 37: return yard.seenAt(some(1, 40, out), some(0, 30, out));
            case 38: return yard.leaps(some(0, 4, out), some(0, 4, out), some(-12, 12, out), some(-12, 12, out));
            case 39: return yard.terms(some(1, 200, out), some(1, 200, out));
            case 40: return yard.termAt(some(1, 200, out), some(1, 200, out), some(0, 5, out));
            case 41: return yard.hull(some(1, 200, out), some(1, 200, out));
            default: return yard.hullAt(some(1, 200, out), some(1, 200, out), some(0, 5, out));
        }
    }
}
