import java.util.NoSuchElementException;

/**
 * What the edge tests share. Each call is made on a yard of its own, made anew by a scene, so that a
 * refused call can be held against no call at all, also in what only undo, rim or lackAt would show.
 */
final class Edge {
    interface Move {
        long run(Latticeyard yard);
    }

    interface MoveAt {
        long run(Latticeyard yard, int number);
    }

    interface Scene {
        Latticeyard make();
    }

    static final Class<IndexOutOfBoundsException> INDEX = IndexOutOfBoundsException.class;
    static final Class<IllegalArgumentException> ARGUMENT = IllegalArgumentException.class;
    static final Class<UnsupportedOperationException> UNSUPPORTED = UnsupportedOperationException.class;
    static final Class<NoSuchElementException> NO_ELEMENT = NoSuchElementException.class;
    static final Class<IllegalStateException> STATE = IllegalStateException.class;
    static final int MIN = Integer.MIN_VALUE;
    static final int MAX = Integer.MAX_VALUE;

    private final Check check = new Check();

    // ---- scenes

    /** Eight grids, ten kept calls and two forgotten ones, three kinds of coins, twelve corners, a text. */
    static Latticeyard full() {
        Latticeyard yard = new Latticeyard();
        for (int call = 0; call < 12; call++) {
            yard.nth(call % 8, 5, call % 6);
        }
        yard.coins(6, 10, 15, 0);
        typePlus(yard);
        yard.close();
        yard.tellCorner(1, 2, true);
        return yard;
    }

    /** A polygon of all twelve corners, of five unit squares. */
    static void typePlus(Latticeyard yard) {
        type(yard, 1, 0, 2, 0, 2, 1, 3, 1, 3, 2, 2, 2, 2, 3, 1, 3, 1, 2, 0, 2, 0, 1, 1, 1);
    }

    /** Slots 0 and 3 hold a grid, the others none; no coins; a triangle is typed, but not closed. */
    static Latticeyard open() {
        Latticeyard yard = new Latticeyard();
        yard.spanned(0, 2, 1, 0, 3);
        yard.nth(3, 6, 4);
        type(yard, 0, 0, 4, 0, 0, 3);
        return yard;
    }

    /** The same, with two kinds of coins, and the triangle closed: one of its sides is aslant. */
    static Latticeyard closed() {
        Latticeyard yard = open();
        yard.coins(3, 5, 0, 0);
        yard.close();
        yard.ways(15);
        return yard;
    }

    static Latticeyard typed(int... numbers) {
        Latticeyard yard = new Latticeyard();
        type(yard, numbers);
        return yard;
    }

    static Latticeyard shut(int... numbers) {
        Latticeyard yard = typed(numbers);
        yard.close();
        return yard;
    }

    private static void type(Latticeyard yard, int... numbers) {
        for (int place = 0; place + 1 < numbers.length; place += 2) {
            yard.corner(numbers[place], numbers[place + 1]);
        }
    }

    // ---- checks

    void due(String what, long got, long want) {
        check.due(what, got, want);
    }

    void due(String what, String got, String want) {
        check.due(what, got, want);
    }

    void yes(String what, boolean holds) {
        check.yes(what, holds);
    }

    void answers(String what, Scene scene, long due, Move move) {
        Latticeyard yard = scene.make();
        check.due(what, Check.answerOf(() -> move.run(yard)), Long.toString(due));
    }

    /** The call lets a slot become the grid of a form, and answers what is due. */
    void becomes(String what, Scene scene, long due, int slot, String form, Move move) {
        Latticeyard yard = scene.make();
        check.due(what, Check.answerOf(() -> move.run(yard)), Long.toString(due));
        check.due(what + ", form", formOf(yard, slot), form);
    }

    /** The call puts this text, and answers how many signs it has. */
    void tells(String what, Scene scene, String due, Move move) {
        Latticeyard yard = scene.make();
        check.due(what, Check.answerOf(() -> move.run(yard)), Integer.toString(due.length()));
        check.due(what + ", text", Check.textOf(yard), due);
    }

    /** The call throws just this class, and leaves the yard as one on which it was not called. */
    void refused(String what, Scene scene, Class<? extends RuntimeException> due, Move move) {
        Latticeyard yard = scene.make();
        check.due(what, Check.answerOf(() -> move.run(yard)), due.getSimpleName());
        check.due(what + ", state behind it", wholeOf(yard), wholeOf(scene.make()));
    }

    /** Both ends of a range are taken; what is next to it and the least and the greatest int are not. */
    void edges(String what, Scene scene, Class<? extends RuntimeException> due, int least, int greatest, MoveAt at) {
        for (int number : new int[] {least, greatest}) {
            Latticeyard yard = scene.make();
            String answer = Check.answerOf(() -> at.run(yard, number));
            check.yes(what + " " + number + " is taken, but answered " + answer, !answer.endsWith("Exception"));
        }
        for (int number : new int[] {least - 1, greatest + 1, MIN, MAX}) {
            refused(what + " " + number, scene, due, yard -> at.run(yard, number));
        }
    }

    void slots(String what, Scene scene, MoveAt at) {
        edges(what + ", slot", scene, INDEX, 0, 7, at);
    }

    void end() {
        check.end();
    }

    // ---- all that a yard shows

    static String formOf(Latticeyard yard, int slot) {
        return Check.answerOf(() -> yard.form(slot, 'a')) + " " + Check.answerOf(() -> yard.form(slot, 'b'))
                + " " + Check.answerOf(() -> yard.form(slot, 'c'));
    }

    /** All that calls can show of a yard, kept calls too: it takes them back one by one, and the corners away. */
    static String wholeOf(Latticeyard yard) {
        StringBuilder all = new StringBuilder(Check.textOf(yard));
        add(all, () -> yard.held());
        add(all, () -> yard.checksum());
        for (int slot = 0; slot < 8; slot++) {
            all.append(", ").append(formOf(yard, slot));
        }
        addCoins(all, yard);
        addPolygon(all, yard);
        addKept(all, yard);
        add(all, () -> yard.clear());
        add(all, () -> yard.checksum());
        return all.toString();
    }

    private static void add(StringBuilder all, Check.Call call) {
        all.append(' ').append(Check.answerOf(call));
    }

    private static void addCoins(StringBuilder all, Latticeyard yard) {
        all.append("; coins");
        add(all, () -> yard.lacks());
        add(all, () -> yard.lackAt(0));
        for (int sum = 0; sum <= 30; sum++) {
            int of = sum;
            add(all, () -> yard.fewest(of));
        }
        add(all, () -> yard.fewest(2500));
    }

    private static void addPolygon(StringBuilder all, Latticeyard yard) {
        all.append("; polygon");
        add(all, () -> yard.rim());
        add(all, () -> yard.within());
        add(all, () -> yard.where(1, 1));
        add(all, () -> yard.isConvex() ? 1 : 0);
        for (int place = 0; place < 30; place++) {
            int at = place;
            add(all, () -> yard.triangleAt(at / 3, at % 3));
        }
    }

    private static void addKept(StringBuilder all, Latticeyard yard) {
        all.append("; kept");
        for (int call = 0; call <= 10; call++) {
            String slot = Check.answerOf(() -> yard.undo());
            all.append(' ').append(slot);
            if (slot.endsWith("Exception")) {
                return;
            }
            all.append(" then ").append(formOf(yard, Integer.parseInt(slot)));
        }
    }
}
