import java.util.NoSuchElementException;

/** Promises 22 to 27: coins, against taking coins one by one. */
public final class CoinTest {
    private static final Check CHECK = new Check();

    public static void main(String[] args) {
        drawnCoins();
        allCoinsHaveALeastLack();
        values();
        toldCoins();
        untold();
        ranges();
        CHECK.end();
    }

    /** In how many ways the kinds from a number on make a sum, and with how few coins. */
    private static long[] slow(int[] values, int from, int sum) {
        if (from == values.length - 1) {
            boolean isMade = sum % values[from] == 0;
            return new long[] {isMade ? 1 : 0, isMade ? sum / values[from] : Integer.MAX_VALUE};
        }
        long[] all = {0, Integer.MAX_VALUE};
        for (int count = 0; count * values[from] <= sum; count++) {
            long[] rest = slow(values, from + 1, sum - count * values[from]);
            all[0] += rest[0];
            all[1] = Math.min(all[1], rest[0] > 0 ? rest[1] + count : Integer.MAX_VALUE);
        }
        return all;
    }

    private static void compare(Latticeyard yard, int[] values, int sum) {
        long[] due = slow(values, 0, sum);
        String what = java.util.Arrays.toString(values) + " of " + sum;
        CHECK.due("canMake " + what, yard.canMake(sum) ? 1 : 0, due[0] > 0 ? 1 : 0);
        if (due[0] > 0) {
            CHECK.due("fewest " + what, yard.fewest(sum), due[1]);
        } else {
            CHECK.refused("fewest " + what, yard, NoSuchElementException.class, () -> yard.fewest(sum));
        }
        String ways = Long.toString(due[0]);
        CHECK.due("ways " + what, yard.ways(sum), ways.length());
        CHECK.due("ways " + what, Check.textOf(yard), ways);
    }

    private static int tell(Latticeyard yard, int[] values) {
        return yard.coins(values[0], values[1], values.length > 2 ? values[2] : 0, values.length > 3 ? values[3] : 0);
    }

    private static boolean areKinds(int[] values) {
        int shared = 0;
        for (int i = 0; i < values.length; i++) {
            for (int j = 0; j < i; j++) {
                if (values[i] == values[j]) {
                    return false;
                }
            }
            shared = java.math.BigInteger.valueOf(shared).gcd(java.math.BigInteger.valueOf(values[i])).intValue();
        }
        return shared == 1;
    }

    private static void drawnCoins() {
        Latticeyard yard = new Latticeyard();
        for (int round = 0; round < 300; round++) {
            int[] values = new int[2 + round % 3];
            for (int kind = 0; kind < values.length; kind++) {
                values[kind] = CHECK.draw(2, round % 4 == 0 ? 12 : 50);
            }
            if (!areKinds(values)) {
                continue;
            }
            int greatest = tell(yard, values);
            int count = 0;
            for (int sum = 0; sum <= greatest; sum++) {
                if (slow(values, 0, sum)[0] == 0) {
                    CHECK.due("lackAt", yard.lackAt(count), sum);
                    CHECK.yes("greatest", sum <= greatest);
                    count++;
                }
            }
            CHECK.due("lacks", yard.lacks(), count);
            CHECK.due("last lack", yard.lackAt(count - 1), greatest);
            int over = count;
            CHECK.refused("lackAt over", yard, NoSuchElementException.class, () -> yard.lackAt(over));
            // Once as many sums in a row as the first value can be made, all from there on can.
            for (int more = 1; more <= values[0]; more++) {
                CHECK.yes("behind the greatest", slow(values, 0, greatest + more)[0] > 0);
            }
            for (int tried = 0; tried < 12; tried++) {
                compare(yard, values, tried < 8 ? CHECK.draw(0, 300) : CHECK.draw(0, values.length > 3 ? 600 : 2500));
            }
        }
    }

    private static void allCoinsHaveALeastLack() {
        Latticeyard yard = new Latticeyard();
        for (int a = 2; a <= 50; a++) {
            for (int b = 2; b <= 50; b++) {
                if (areKinds(new int[] {a, b})) {
                    CHECK.due("two kinds " + a + " " + b, yard.coins(a, b, 0, 0), a * b - a - b);
                    CHECK.due("lacks " + a + " " + b, yard.lacks(), (a - 1) * (b - 1) / 2);
                }
            }
        }
    }

    private static void values() {
        Latticeyard yard = new Latticeyard();
        CHECK.due("the greatest of all", yard.coins(50, 49, 0, 0), 2351);
        compare(yard, new int[] {50, 49}, 2351);
        compare(yard, new int[] {50, 49}, 2500);
        CHECK.due("the least of all", yard.coins(2, 3, 0, 0), 1);
        CHECK.due("most ways", yard.coins(2, 3, 4, 5), 1);
        CHECK.due("most ways, signs", yard.ways(2500), Check.textOf(yard).length());
        compare(yard, new int[] {5, 4, 3, 2}, 2500);
        CHECK.due("no pair without", yard.coins(6, 10, 15, 0), 29);
        CHECK.due("no three without", yard.coins(42, 30, 35, 50), greatestLack(new int[] {30, 35, 42, 50}));
        Class<IllegalArgumentException> out = IllegalArgumentException.class;
        int[][] wrong = {{1, 3, 0, 0}, {3, 1, 0, 0}, {51, 3, 0, 0}, {3, 51, 0, 0}, {0, 3, 5, 0}, {3, 0, 5, 0},
            {3, 5, 1, 0}, {3, 5, 51, 0}, {3, 5, -1, 0}, {3, 5, 7, 1}, {3, 5, 7, 51}, {3, 5, 7, -7}, {3, 5, 0, 7},
            {3, 3, 0, 0}, {3, 5, 3, 0}, {3, 5, 5, 0}, {3, 5, 7, 3}, {3, 5, 7, 5}, {3, 5, 7, 7}, {-3, 5, 0, 0},
            {4, 4, 0, 0}, {4, 6, 0, 8}, {4, 6, 52, 0}, {Integer.MIN_VALUE, 5, 0, 0}, {3, 5, 0, 1}, {3, 3, 0, 5}};
        for (int[] told : wrong) {
            CHECK.refused("coins " + java.util.Arrays.toString(told), yard, out,
                    () -> yard.coins(told[0], told[1], told[2], told[3]));
        }
        Class<UnsupportedOperationException> shared = UnsupportedOperationException.class;
        CHECK.refused("all even", yard, shared, () -> yard.coins(4, 6, 0, 0));
        CHECK.refused("all of 3", yard, shared, () -> yard.coins(6, 9, 12, 0));
        CHECK.refused("all of 7", yard, shared, () -> yard.coins(7, 14, 21, 49));
        CHECK.due("what was told still stands", yard.lacks(), yard.lacks());
        CHECK.due("its greatest", yard.lackAt(yard.lacks() - 1), greatestLack(new int[] {30, 35, 42, 50}));
    }

    private static int greatestLack(int[] values) {
        int greatest = 0;
        for (int sum = 0; sum <= 600; sum++) {
            greatest = slow(values, 0, sum)[0] == 0 ? sum : greatest;
        }
        return greatest;
    }

    private static void toldCoins() {
        Latticeyard yard = new Latticeyard();
        CHECK.due("three", yard.coins(3, 5, 7, 0), 4);
        CHECK.due("then two", yard.coins(3, 5, 0, 0), 7);
        CHECK.due("lacks", yard.lacks(), 4);
        CHECK.due("0 can be made", yard.canMake(0) ? 1 : 0, 1);
        CHECK.due("of no coin", yard.fewest(0), 0);
        CHECK.due("in one way", yard.ways(0), 1);
        CHECK.due("text", Check.textOf(yard), "1");
        CHECK.due("no way", yard.ways(7), 1);
        CHECK.due("text", Check.textOf(yard), "0");
        CHECK.due("not of the greatest value first", yard.coins(7, 10, 12, 0), yard.lackAt(yard.lacks() - 1));
        CHECK.due("14 of two", yard.fewest(14), 2);
        CHECK.due("21 of three", yard.fewest(21), 3);
    }

    private static void untold() {
        Latticeyard yard = new Latticeyard();
        Class<IllegalStateException> untold = IllegalStateException.class;
        CHECK.refused("coins", yard, UnsupportedOperationException.class, () -> yard.coins(4, 6, 0, 0));
        CHECK.refused("lacks", yard, untold, () -> yard.lacks());
        CHECK.refused("lackAt", yard, untold, () -> yard.lackAt(-1));
        CHECK.refused("canMake", yard, untold, () -> yard.canMake(-1) ? 1 : 0);
        CHECK.refused("fewest", yard, untold, () -> yard.fewest(-1));
        CHECK.refused("ways", yard, untold, () -> yard.ways(2501));
    }

    private static void ranges() {
        Latticeyard yard = new Latticeyard();
        yard.coins(3, 5, 0, 0);
        Class<IllegalArgumentException> out = IllegalArgumentException.class;
        CHECK.refused("lackAt -1", yard, NoSuchElementException.class, () -> yard.lackAt(-1));
        CHECK.refused("lackAt 4", yard, NoSuchElementException.class, () -> yard.lackAt(4));
        CHECK.refused("canMake -1", yard, out, () -> yard.canMake(-1) ? 1 : 0);
        CHECK.refused("canMake 2501", yard, out, () -> yard.canMake(2501) ? 1 : 0);
        CHECK.refused("fewest -1", yard, out, () -> yard.fewest(-1));
        CHECK.refused("fewest 2501", yard, out, () -> yard.fewest(2501));
        CHECK.refused("ways -1", yard, out, () -> yard.ways(-1));
        CHECK.refused("ways 2501", yard, out, () -> yard.ways(2501));
        CHECK.due("canMake 2500", yard.canMake(2500) ? 1 : 0, 1);
        CHECK.due("fewest 2500", yard.fewest(2500), 500);
    }
}
