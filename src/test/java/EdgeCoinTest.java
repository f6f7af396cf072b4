import java.util.Arrays;

/** The edges of promises 22 to 27, and of what the terms say of coins. */
public final class EdgeCoinTest {
    private static final Edge EDGE = new Edge();

    public static void main(String[] args) {
        valueRanges();
        likeValues();
        kinds();
        commonDivisors();
        greatestLacks();
        lackNumbers();
        untold();
        sums();
        fewestCoins();
        wayCounts();
        halfOfTheSums();
        EDGE.end();
    }

    private static Latticeyard told(int a, int b, int c, int d) {
        Latticeyard yard = new Latticeyard();
        yard.coins(a, b, c, d);
        return yard;
    }

    // ---- promise 22

    private static void valueRanges() {
        for (Edge.Scene scene : new Edge.Scene[] {Latticeyard::new, Edge::full, Edge::closed}) {
            EDGE.edges("coins a", scene, Edge.ARGUMENT, 2, 50, (y, a) -> y.coins(a, 49, 0, 0));
            EDGE.edges("coins b", scene, Edge.ARGUMENT, 2, 50, (y, b) -> y.coins(49, b, 0, 0));
            EDGE.edges("coins c", scene, Edge.ARGUMENT, 2, 50, (y, c) -> y.coins(48, 49, c, 0));
            EDGE.edges("coins c of four", scene, Edge.ARGUMENT, 2, 50, (y, c) -> y.coins(48, 49, c, 47));
            EDGE.edges("coins d", scene, Edge.ARGUMENT, 2, 50, (y, d) -> y.coins(48, 49, 47, d));
            EDGE.refused("no first value", scene, Edge.ARGUMENT, y -> y.coins(0, 3, 5, 0));
            EDGE.refused("no second value", scene, Edge.ARGUMENT, y -> y.coins(3, 0, 5, 0));
            EDGE.refused("no values", scene, Edge.ARGUMENT, y -> y.coins(0, 0, 0, 0));
            EDGE.refused("fourth, no third", scene, Edge.ARGUMENT, y -> y.coins(3, 5, 0, 7));
            EDGE.refused("fourth out of range, no third", scene, Edge.ARGUMENT, y -> y.coins(3, 5, 0, -1));
        }
        EDGE.answers("no third and no fourth", Latticeyard::new, 7, y -> y.coins(3, 5, 0, 0));
        EDGE.answers("no fourth", Latticeyard::new, 4, y -> y.coins(3, 5, 7, 0));
    }

    private static void likeValues() {
        int[][] wrong = {{3, 3, 0, 0}, {3, 5, 3, 0}, {3, 5, 5, 0}, {3, 5, 7, 3}, {3, 5, 7, 5}, {3, 5, 7, 7},
            {2, 2, 0, 0}, {50, 50, 0, 0}, {3, 3, 5, 0}, {3, 3, 5, 7}, {3, 5, 3, 7}, {3, 5, 5, 7}};
        for (int[] of : wrong) {
            for (Edge.Scene scene : new Edge.Scene[] {Latticeyard::new, Edge::full}) {
                EDGE.refused("two the same " + Arrays.toString(of), scene, Edge.ARGUMENT,
                        y -> y.coins(of[0], of[1], of[2], of[3]));
            }
        }
    }

    private static void kinds() {
        Latticeyard yard = told(9, 4, 0, 0);
        EDGE.due("in the order in which they were told", yard.checksum(), sumOf(9, 4));
        yard.coins(9, 4, 7, 2);
        EDGE.due("four in place of two", yard.checksum(), sumOf(9, 4, 7, 2));
        yard.coins(50, 49, 48, 0);
        EDGE.due("three in place of four", yard.checksum(), sumOf(50, 49, 48));
        yard.coins(3, 2, 0, 0);
        EDGE.due("two in place of three", yard.checksum(), sumOf(3, 2));
        EDGE.due("what the two make", yard.lackAt(0), 1);
        EDGE.due("how many lacks they have", yard.lacks(), 1);
    }

    private static long sumOf(long... values) {
        long sum = new Latticeyard().checksum();
        for (long value : values) {
            sum = 31 * sum + value;
        }
        return sum;
    }

    private static void commonDivisors() {
        int[][] wrong = {{2, 4, 0, 0}, {48, 50, 0, 0}, {25, 50, 0, 0}, {6, 9, 12, 0}, {7, 14, 21, 49},
            {2, 4, 6, 50}, {49, 42, 0, 0}};
        for (int[] of : wrong) {
            for (Edge.Scene scene : new Edge.Scene[] {Latticeyard::new, Edge::full, Edge::closed}) {
                EDGE.refused("a common divisor " + Arrays.toString(of), scene, Edge.UNSUPPORTED,
                        y -> y.coins(of[0], of[1], of[2], of[3]));
            }
        }
        EDGE.answers("each two have one, all three none", Latticeyard::new, 29, y -> y.coins(6, 10, 15, 0));
        EDGE.answers("but for the last value", Latticeyard::new, 47, y -> y.coins(4, 6, 8, 45));
        int[][] both = {{4, 52, 0, 0}, {1, 1, 0, 0}, {4, 4, 0, 0}, {4, 6, 0, 8}, {4, 6, 8, 4}, {0, 4, 6, 0}, {-4, 6, 0, 0}};
        for (int[] of : both) {
            EDGE.refused("also out of range or like " + Arrays.toString(of), Edge::full, Edge.ARGUMENT,
                    y -> y.coins(of[0], of[1], of[2], of[3]));
        }
    }

    private static void greatestLacks() {
        EDGE.answers("least of all", Latticeyard::new, 1, y -> y.coins(2, 3, 0, 0));
        EDGE.answers("least of all, turned", Latticeyard::new, 1, y -> y.coins(3, 2, 0, 0));
        EDGE.answers("least of four", Latticeyard::new, 1, y -> y.coins(50, 49, 3, 2));
        EDGE.answers("greatest of all", Latticeyard::new, 2351, y -> y.coins(49, 50, 0, 0));
        EDGE.answers("greatest of all, turned", Latticeyard::new, 2351, y -> y.coins(50, 49, 0, 0));
        EDGE.answers("a value that changes nothing", Latticeyard::new, 7, y -> y.coins(3, 5, 50, 48));
    }

    // ---- promises 23, 24

    private static void lackNumbers() {
        EDGE.answers("one lack", () -> told(2, 3, 0, 0), 1, y -> y.lacks());
        EDGE.edges("lackAt of one", () -> told(2, 3, 0, 0), Edge.NO_ELEMENT, 0, 0, (y, index) -> y.lackAt(index));
        EDGE.answers("four lacks", Edge::closed, 4, y -> y.lacks());
        EDGE.edges("lackAt of four", Edge::closed, Edge.NO_ELEMENT, 0, 3, (y, index) -> y.lackAt(index));
        int[] due = {1, 2, 4, 7};
        for (int index = 0; index < 4; index++) {
            int at = index;
            EDGE.answers("lackAt " + index, Edge::closed, due[index], y -> y.lackAt(at));
        }
        Edge.Scene most = () -> told(49, 50, 0, 0);
        EDGE.answers("most lacks", most, 1176, y -> y.lacks());
        EDGE.edges("lackAt of most", most, Edge.NO_ELEMENT, 0, 1175, (y, index) -> y.lackAt(index));
        EDGE.answers("the first", most, 1, y -> y.lackAt(0));
        EDGE.answers("the last but one", most, 2302, y -> y.lackAt(1174));
        EDGE.answers("the last", most, 2351, y -> y.lackAt(1175));
        EDGE.answers("behind two refused calls", Edge::closed, 4, EdgeCoinTest::lacksBehindRefused);
    }

    private static int lacksBehindRefused(Latticeyard yard) {
        EDGE.due("refused", Check.answerOf(() -> yard.coins(49, 50, 51, 0)), "IllegalArgumentException");
        EDGE.due("refused", Check.answerOf(() -> yard.coins(48, 50, 46, 0)), "UnsupportedOperationException");
        return yard.lacks();
    }

    private static void untold() {
        for (Edge.Scene scene : new Edge.Scene[] {Latticeyard::new, Edge::open}) {
            EDGE.refused("lacks", scene, Edge.STATE, y -> y.lacks());
            EDGE.refused("lackAt", scene, Edge.STATE, y -> y.lackAt(0));
            EDGE.refused("canMake", scene, Edge.STATE, y -> y.canMake(0) ? 1 : 0);
            EDGE.refused("fewest", scene, Edge.STATE, y -> y.fewest(0));
            EDGE.refused("ways", scene, Edge.STATE, y -> y.ways(0));
            EDGE.refused("fewest, cannot be made", scene, Edge.STATE, y -> y.fewest(1));
            for (int out : new int[] {-1, 2501, Edge.MIN, Edge.MAX}) {
                EDGE.refused("lackAt " + out, scene, Edge.STATE, y -> y.lackAt(out));
                EDGE.refused("canMake " + out, scene, Edge.STATE, y -> y.canMake(out) ? 1 : 0);
                EDGE.refused("fewest " + out, scene, Edge.STATE, y -> y.fewest(out));
                EDGE.refused("ways " + out, scene, Edge.STATE, y -> y.ways(out));
            }
        }
        EDGE.refused("still untold behind a refused one", EdgeCoinTest::refusedOnce, Edge.STATE, y -> y.lacks());
    }

    private static Latticeyard refusedOnce() {
        Latticeyard yard = new Latticeyard();
        EDGE.due("refused", Check.answerOf(() -> yard.coins(4, 6, 0, 0)), "UnsupportedOperationException");
        return yard;
    }

    // ---- promises 25 to 27

    private static void sums() {
        EDGE.edges("canMake", Edge::full, Edge.ARGUMENT, 0, 2500, (y, sum) -> y.canMake(sum) ? 1 : 0);
        EDGE.edges("fewest", Edge::full, Edge.ARGUMENT, 0, 2500, (y, sum) -> y.fewest(sum));
        EDGE.edges("ways", Edge::full, Edge.ARGUMENT, 0, 2500, (y, sum) -> y.ways(sum));
        Edge.Scene most = () -> told(49, 50, 0, 0);
        EDGE.answers("0", most, 1, y -> y.canMake(0) ? 1 : 0);
        EDGE.answers("1", most, 0, y -> y.canMake(1) ? 1 : 0);
        EDGE.answers("below the least value", most, 0, y -> y.canMake(48) ? 1 : 0);
        EDGE.answers("the least value", most, 1, y -> y.canMake(49) ? 1 : 0);
        EDGE.answers("the greatest value", most, 1, y -> y.canMake(50) ? 1 : 0);
        EDGE.answers("above it", most, 0, y -> y.canMake(51) ? 1 : 0);
        EDGE.answers("the greatest lack", most, 0, y -> y.canMake(2351) ? 1 : 0);
        EDGE.answers("the next sum", most, 1, y -> y.canMake(2352) ? 1 : 0);
        EDGE.answers("2499", most, 1, y -> y.canMake(2499) ? 1 : 0);
        EDGE.answers("2500", most, 1, y -> y.canMake(2500) ? 1 : 0);
    }

    private static void fewestCoins() {
        EDGE.answers("no coin", Edge::closed, 0, y -> y.fewest(0));
        EDGE.answers("one coin", Edge::closed, 1, y -> y.fewest(5));
        EDGE.answers("most coins", () -> told(2, 3, 0, 0), 834, y -> y.fewest(2500));
        EDGE.answers("of the greatest values", () -> told(49, 50, 0, 0), 50, y -> y.fewest(2500));
        EDGE.answers("one less", () -> told(49, 50, 0, 0), 50, y -> y.fewest(2499));
        EDGE.answers("not of the greatest value", () -> told(7, 10, 12, 0), 2, y -> y.fewest(14));
        for (int lack : new int[] {1, 2, 4, 7}) {
            EDGE.refused("cannot be made " + lack, Edge::closed, Edge.NO_ELEMENT, y -> y.fewest(lack));
        }
        EDGE.refused("the greatest lack", () -> told(49, 50, 0, 0), Edge.NO_ELEMENT, y -> y.fewest(2351));
        EDGE.answers("above the greatest lack", () -> told(49, 50, 0, 0), 48, y -> y.fewest(2352));
    }

    private static void wayCounts() {
        EDGE.tells("0 in one way", Edge::full, "1", y -> y.ways(0));
        EDGE.tells("a lack in none", Edge::full, "0", y -> y.ways(29));
        EDGE.tells("the least sum in none", Edge::closed, "0", y -> y.ways(1));
        EDGE.tells("the order does not matter", () -> told(2, 3, 0, 0), "1", y -> y.ways(5));
        EDGE.tells("two ways", Edge::closed, "2", y -> y.ways(15));
        EDGE.tells("ten ways have two signs", () -> told(2, 3, 0, 0), "10", y -> y.ways(54));
        EDGE.tells("nine ways have one", () -> told(2, 3, 0, 0), "9", y -> y.ways(53));
        EDGE.tells("most ways", () -> told(2, 3, 4, 5), slowMost(), y -> y.ways(2500));
        EDGE.refused("what is refused puts nothing", Edge::full, Edge.ARGUMENT, y -> y.ways(2501));
    }

    /** Ways of 2, 3, 4 and 5 to make 2500, by how many fives and fours and threes there are. */
    private static String slowMost() {
        long count = 0;
        for (int five = 0; five <= 2500; five += 5) {
            for (int four = 0; five + four <= 2500; four += 4) {
                for (int three = 0; five + four + three <= 2500; three += 3) {
                    count += (2500 - five - four - three) % 2 == 0 ? 1 : 0;
                }
            }
        }
        return Long.toString(count);
    }

    /** Of two sums that are the greatest lack together just one can be made, 0 and that lack too. */
    private static void halfOfTheSums() {
        for (int[] of : new int[][] {{2, 3}, {3, 2}, {7, 9}, {2, 49}, {50, 3}}) {
            Latticeyard yard = new Latticeyard();
            int greatest = yard.coins(of[0], of[1], 0, 0);
            EDGE.due("half " + Arrays.toString(of), 2 * yard.lacks(), greatest + 1);
            for (int sum = 0; sum <= greatest; sum++) {
                EDGE.yes("just one of " + sum, yard.canMake(sum) != yard.canMake(greatest - sum));
            }
        }
    }
}
