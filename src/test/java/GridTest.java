import java.util.NoSuchElementException;

/** Promises 1 to 12: grids, against counting points one by one. */
public final class GridTest {
    private static final Check CHECK = new Check();

    public static void main(String[] args) {
        newYard();
        spannedGrids();
        spannedEdges();
        remainderGrids();
        remainderEdges();
        listedGrids();
        listedEdges();
        forms();
        points();
        sameAndParts();
        meetsAndJoins();
        greatMeets();
        undoing();
        CHECK.end();
    }

    private static void newYard() {
        Latticeyard yard = new Latticeyard();
        CHECK.due("held", yard.held(), 0);
        CHECK.due("text", Check.textOf(yard), "");
        long empty = 7;
        for (int slot = 0; slot < 8; slot++) {
            empty *= 31;
            int at = slot;
            CHECK.refused("form of none", yard, NoSuchElementException.class, () -> yard.form(at, 'a'));
        }
        CHECK.due("checksum", yard.checksum(), empty);
        CHECK.refused("no coins", yard, IllegalStateException.class, () -> yard.lacks());
        CHECK.refused("no polygon", yard, IllegalStateException.class, () -> yard.rim());
        CHECK.due("clear", yard.clear(), 0);
        CHECK.yes("sound", yard.isSound());
    }

    private static String formOf(Latticeyard yard, int slot) {
        return yard.form(slot, 'a') + " " + yard.form(slot, 'b') + " " + yard.form(slot, 'c');
    }

    /** Whether p, q is i * (x, y) + j * (u, v) for whole i and j. */
    private static boolean isSum(long p, long q, int x, int y, int u, int v) {
        long turn = (long) x * v - (long) y * u;
        return (p * v - q * u) % turn == 0 && (x * q - y * p) % turn == 0;
    }

    private static String slowSpan(int x, int y, int u, int v) {
        int c = 1;
        while (!isSum(0, c, x, y, u, v)) {
            c++;
        }
        int a = Math.abs(x * v - y * u) / c;
        int b = 0;
        while (!isSum(a, b, x, y, u, v)) {
            b++;
        }
        return a + " " + b + " " + c;
    }

    private static void spannedGrids() {
        Latticeyard yard = new Latticeyard();
        for (int round = 0; round < 4000; round++) {
            int far = round < 3000 ? 9 : 500;
            int x = CHECK.draw(-far, far);
            int y = CHECK.draw(-far, far);
            int u = CHECK.draw(-far, far);
            int v = CHECK.draw(-far, far);
            String what = "spanned " + x + " " + y + " " + u + " " + v;
            if (x * v == y * u) {
                CHECK.refused(what, yard, UnsupportedOperationException.class,
                        () -> yard.spanned(2, x, y, u, v));
            } else {
                CHECK.due(what, yard.spanned(2, x, y, u, v), Math.abs(x * v - y * u));
                CHECK.due(what + " form", formOf(yard, 2), slowSpan(x, y, u, v));
            }
        }
    }

    private static void spannedEdges() {
        Latticeyard yard = new Latticeyard();
        CHECK.due("greatest", yard.spanned(0, 500, 500, -500, 500), 500000);
        CHECK.due("greatest form", formOf(yard, 0), "500 500 1000");
        CHECK.due("greatest upright", yard.spanned(7, 0, -500, 500, 0), 250000);
        CHECK.due("greatest upright form", formOf(yard, 7), "500 0 500");
        CHECK.refused("slot -1", yard, IndexOutOfBoundsException.class, () -> yard.spanned(-1, 501, 0, 0, 0));
        CHECK.refused("slot 8", yard, IndexOutOfBoundsException.class, () -> yard.spanned(8, 1, 0, 0, 1));
        Class<IllegalArgumentException> out = IllegalArgumentException.class;
        CHECK.refused("x 501", yard, out, () -> yard.spanned(0, 501, 0, 0, 0));
        CHECK.refused("y -501", yard, out, () -> yard.spanned(0, 1, -501, 0, 1));
        CHECK.refused("u -501", yard, out, () -> yard.spanned(0, 1, 0, -501, 1));
        CHECK.refused("v 501", yard, out, () -> yard.spanned(0, 1, 0, 0, 501));
        CHECK.refused("v least", yard, out, () -> yard.spanned(0, 1, 0, 0, Integer.MIN_VALUE));
        CHECK.refused("in a line", yard, UnsupportedOperationException.class,
                () -> yard.spanned(0, 2, 4, 1, 2));
        CHECK.refused("one is 0, 0", yard, UnsupportedOperationException.class,
                () -> yard.spanned(0, 0, 0, 1, 2));
        CHECK.refused("both are upright", yard, UnsupportedOperationException.class,
                () -> yard.spanned(0, 0, 3, 0, 2));
    }

    private static String slowRemainder(int p, int q, int by) {
        int c = 1;
        while (q * c % by != 0) {
            c++;
        }
        for (int a = 1; a <= by; a++) {
            for (int b = 0; b < c; b++) {
                if ((p * a + q * b) % by == 0) {
                    return a + " " + b + " " + c;
                }
            }
        }
        return "none";
    }

    private static void remainderGrids() {
        Latticeyard yard = new Latticeyard();
        for (int round = 0; round < 3000; round++) {
            int far = round < 2000 ? 30 : 1000;
            int p = CHECK.draw(-far, far);
            int q = CHECK.draw(-far, far);
            int by = CHECK.draw(1, far);
            String form = slowRemainder(p, q, by);
            String what = "remainder " + p + " " + q + " " + by;
            int index = yard.remainder(5, p, q, by);
            CHECK.due(what, formOf(yard, 5), form);
            CHECK.due(what, index, yard.form(5, 'a') * yard.form(5, 'c'));
        }
    }

    private static void remainderEdges() {
        Latticeyard yard = new Latticeyard();
        CHECK.due("all points", yard.remainder(0, 0, 0, 1000), 1);
        CHECK.due("all points form", formOf(yard, 0), "1 0 1");
        CHECK.due("by 1", yard.remainder(0, 7, -9, 1), 1);
        CHECK.due("greatest", yard.remainder(0, -1, 0, 1000), 1000);
        CHECK.due("greatest form", formOf(yard, 0), "1000 0 1");
        CHECK.due("full", yard.remainder(0, 1000, 1000, 1000), 1);
        CHECK.refused("slot 8", yard, IndexOutOfBoundsException.class, () -> yard.remainder(8, 1001, 0, 0));
        CHECK.refused("slot -1", yard, IndexOutOfBoundsException.class, () -> yard.remainder(-1, 1, 0, 2));
        Class<IllegalArgumentException> out = IllegalArgumentException.class;
        CHECK.refused("p -1001", yard, out, () -> yard.remainder(0, -1001, 0, 1));
        CHECK.refused("p 1001", yard, out, () -> yard.remainder(0, 1001, 0, 1));
        CHECK.refused("q -1001", yard, out, () -> yard.remainder(0, 0, -1001, 1));
        CHECK.refused("q 1001", yard, out, () -> yard.remainder(0, 0, 1001, 1));
        CHECK.refused("by 0", yard, out, () -> yard.remainder(0, 1, 1, 0));
        CHECK.refused("by 1001", yard, out, () -> yard.remainder(0, 1, 1, 1001));
    }

    private static void listedGrids() {
        Latticeyard yard = new Latticeyard();
        for (int index = 1; index <= 200; index += index < 40 ? 1 : 20) {
            int rank = 0;
            for (int a = 1; a <= index; a++) {
                for (int b = 0; index % a == 0 && b < index / a; b++) {
                    String what = "nth " + index + " " + rank;
                    CHECK.due(what, yard.nth(3, index, rank), a);
                    CHECK.due(what, formOf(yard, 3), a + " " + b + " " + index / a);
                    rank++;
                }
            }
            CHECK.due("grids " + index, yard.grids(index), rank);
            int over = rank;
            int like = index;
            CHECK.refused("nth over " + index, yard, NoSuchElementException.class,
                    () -> yard.nth(3, like, over));
        }
    }

    private static void listedEdges() {
        Latticeyard yard = new Latticeyard();
        CHECK.due("grids 1", yard.grids(1), 1);
        CHECK.due("grids 200", yard.grids(200), 465);
        CHECK.refused("grids 0", yard, IllegalArgumentException.class, () -> yard.grids(0));
        CHECK.refused("grids 201", yard, IllegalArgumentException.class, () -> yard.grids(201));
        CHECK.refused("nth slot", yard, IndexOutOfBoundsException.class, () -> yard.nth(8, 0, -1));
        CHECK.refused("nth slot -1", yard, IndexOutOfBoundsException.class, () -> yard.nth(-1, 1, 0));
        CHECK.refused("nth index 0", yard, IllegalArgumentException.class, () -> yard.nth(0, 0, -1));
        CHECK.refused("nth index 201", yard, IllegalArgumentException.class, () -> yard.nth(0, 201, 0));
        CHECK.refused("nth rank -1", yard, NoSuchElementException.class, () -> yard.nth(0, 6, -1));
        CHECK.refused("nth rank least", yard, NoSuchElementException.class,
                () -> yard.nth(0, 6, Integer.MIN_VALUE));
        CHECK.refused("nth rank greatest", yard, NoSuchElementException.class,
                () -> yard.nth(0, 6, Integer.MAX_VALUE));
    }

    private static void forms() {
        Latticeyard yard = new Latticeyard();
        yard.nth(1, 12, 7);
        CHECK.refused("slot 8", yard, IndexOutOfBoundsException.class, () -> yard.form(8, 'x'));
        CHECK.refused("slot -1", yard, IndexOutOfBoundsException.class, () -> yard.form(-1, 'a'));
        CHECK.refused("letter of none", yard, IllegalArgumentException.class, () -> yard.form(0, 'A'));
        CHECK.refused("letter d", yard, IllegalArgumentException.class, () -> yard.form(1, 'd'));
        CHECK.refused("letter 0", yard, IllegalArgumentException.class, () -> yard.form(1, (char) 0));
        CHECK.refused("none", yard, NoSuchElementException.class, () -> yard.form(0, 'c'));
    }

    private static void points() {
        Latticeyard yard = new Latticeyard();
        for (int round = 0; round < 300; round++) {
            int x = CHECK.draw(-8, 8);
            int y = CHECK.draw(-8, 8);
            int u = CHECK.draw(-8, 8);
            int v = CHECK.draw(-8, 8);
            if (x * v == y * u) {
                continue;
            }
            yard.spanned(6, x, y, u, v);
            for (int tried = 0; tried < 200; tried++) {
                boolean isFar = tried % 4 == 0;
                int p = isFar ? CHECK.draw(Integer.MIN_VALUE, Integer.MAX_VALUE) : CHECK.draw(-20, 20);
                int q = isFar ? CHECK.draw(Integer.MIN_VALUE, Integer.MAX_VALUE) : CHECK.draw(-20, 20);
                CHECK.due("has " + p + " " + q + " of " + formOf(yard, 6),
                        yard.has(6, p, q) ? 1 : 0, isSum(p, q, x, y, u, v) ? 1 : 0);
            }
        }
        yard.spanned(0, 1, 499, 0, 500);
        int least = Integer.MIN_VALUE;
        CHECK.due("has far", yard.has(0, least, least) ? 1 : 0, isSum(least, least, 1, 499, 0, 500) ? 1 : 0);
        CHECK.yes("has 0, 0", yard.has(0, 0, 0));
        CHECK.refused("slot 8", yard, IndexOutOfBoundsException.class, () -> yard.has(8, 0, 0) ? 1 : 0);
        CHECK.refused("slot -1", yard, IndexOutOfBoundsException.class, () -> yard.has(-1, 0, 0) ? 1 : 0);
        CHECK.refused("none", yard, NoSuchElementException.class, () -> yard.has(1, 0, 0) ? 1 : 0);
    }

    private static void sameAndParts() {
        Latticeyard yard = new Latticeyard();
        for (int round = 0; round < 600; round++) {
            yard.nth(0, 12, CHECK.draw(0, yard.grids(12) - 1));
            int index = CHECK.draw(1, 12);
            yard.nth(1, index, CHECK.draw(0, yard.grids(index) - 1));
            boolean isWithin = true;
            boolean isLike = true;
            for (int x = -12; x <= 12; x++) {
                for (int y = -12; y <= 12; y++) {
                    isWithin &= !yard.has(0, x, y) || yard.has(1, x, y);
                    isLike &= yard.has(0, x, y) == yard.has(1, x, y);
                }
            }
            String what = formOf(yard, 0) + " and " + formOf(yard, 1);
            CHECK.due("isSame " + what, yard.isSame(0, 1) ? 1 : 0, isLike ? 1 : 0);
            if (isWithin) {
                CHECK.due("parts " + what, yard.parts(0, 1), 12 / index);
            } else {
                CHECK.refused("parts " + what, yard, UnsupportedOperationException.class,
                        () -> yard.parts(0, 1));
            }
        }
        CHECK.yes("the same as itself", yard.isSame(0, 0));
        CHECK.due("parts of itself", yard.parts(0, 0), 1);
        CHECK.refused("slot 8", yard, IndexOutOfBoundsException.class, () -> yard.isSame(8, 7) ? 1 : 0);
        CHECK.refused("slot -1", yard, IndexOutOfBoundsException.class, () -> yard.isSame(7, -1) ? 1 : 0);
        CHECK.refused("none", yard, NoSuchElementException.class, () -> yard.isSame(0, 7) ? 1 : 0);
        CHECK.refused("none ahead", yard, NoSuchElementException.class, () -> yard.isSame(7, 0) ? 1 : 0);
        CHECK.refused("slot 8", yard, IndexOutOfBoundsException.class, () -> yard.parts(8, 7));
        CHECK.refused("slot -1", yard, IndexOutOfBoundsException.class, () -> yard.parts(7, -1));
        CHECK.refused("none", yard, NoSuchElementException.class, () -> yard.parts(0, 7));
        CHECK.refused("none ahead", yard, NoSuchElementException.class, () -> yard.parts(7, 0));
    }

    private static void drawSmall(Latticeyard yard, int slot) {
        int index = CHECK.draw(1, 14);
        yard.nth(slot, index, CHECK.draw(0, yard.grids(index) - 1));
    }

    private static int indexOf(Latticeyard yard, int slot) {
        return yard.form(slot, 'a') * yard.form(slot, 'c');
    }

    private static void meetsAndJoins() {
        Latticeyard yard = new Latticeyard();
        for (int round = 0; round < 1500; round++) {
            drawSmall(yard, 0);
            drawSmall(yard, 1);
            int one = indexOf(yard, 0);
            int other = indexOf(yard, 1);
            // As many points of a square of one * other are in both as its area over the index tells.
            int side = one * other;
            int common = 0;
            for (int x = 0; x < side; x++) {
                for (int y = 0; y < side; y++) {
                    common += yard.has(0, x, y) && yard.has(1, x, y) ? 1 : 0;
                }
            }
            int met = (int) ((long) side * side / common);
            String what = formOf(yard, 0) + " and " + formOf(yard, 1);
            CHECK.due("meet " + what, yard.meet(2, 0, 1), met);
            CHECK.due("join " + what, yard.join(3, 0, 1), one * other / met);
            CHECK.due("meet index " + what, indexOf(yard, 2), met);
            CHECK.due("join index " + what, indexOf(yard, 3), one * other / met);
            CHECK.due("meet in one " + what, yard.parts(2, 0), met / one);
            CHECK.due("meet in other " + what, yard.parts(2, 1), met / other);
            CHECK.due("one in join " + what, yard.parts(0, 3), met / other);
            CHECK.due("other in join " + what, yard.parts(1, 3), met / one);
            CHECK.yes("b of meet " + what, yard.form(2, 'b') >= 0 && yard.form(2, 'b') < yard.form(2, 'c'));
            CHECK.yes("b of join " + what, yard.form(3, 'b') >= 0 && yard.form(3, 'b') < yard.form(3, 'c'));
        }
        meetAndJoinEdges();
    }

    private static void meetAndJoinEdges() {
        Latticeyard yard = new Latticeyard();
        yard.nth(0, 4, 1);
        yard.nth(1, 6, 1);
        String one = formOf(yard, 0);
        CHECK.due("meet into one", yard.meet(0, 0, 1), 12);
        CHECK.due("undo that", yard.undo(), 0);
        CHECK.due("one again", formOf(yard, 0), one);
        CHECK.due("join into other", yard.join(1, 0, 1), 2);
        CHECK.due("meet of itself", yard.meet(4, 0, 0), 4);
        CHECK.yes("meet of itself is the same", yard.isSame(4, 0));
        CHECK.due("join of itself", yard.join(5, 0, 0), 4);
        CHECK.yes("join of itself is the same", yard.isSame(5, 0));
        Class<IndexOutOfBoundsException> noSlot = IndexOutOfBoundsException.class;
        Class<NoSuchElementException> none = NoSuchElementException.class;
        CHECK.refused("meet slot", yard, noSlot, () -> yard.meet(8, 7, 7));
        CHECK.refused("meet a", yard, noSlot, () -> yard.meet(7, -1, 7));
        CHECK.refused("meet b", yard, noSlot, () -> yard.meet(7, 7, 8));
        CHECK.refused("meet none a", yard, none, () -> yard.meet(0, 7, 0));
        CHECK.refused("meet none b", yard, none, () -> yard.meet(0, 0, 7));
        CHECK.refused("join slot", yard, noSlot, () -> yard.join(-1, 7, 7));
        CHECK.refused("join a", yard, noSlot, () -> yard.join(7, 8, 7));
        CHECK.refused("join b", yard, noSlot, () -> yard.join(7, 7, -1));
        CHECK.refused("join none a", yard, none, () -> yard.join(0, 7, 0));
        CHECK.refused("join none b", yard, none, () -> yard.join(0, 0, 7));
    }

    private static void greatMeets() {
        Latticeyard yard = new Latticeyard();
        yard.remainder(0, 1, 0, 1000);
        yard.remainder(1, 0, 1, 1000);
        CHECK.due("just the greatest", yard.meet(2, 0, 1), 1000000);
        CHECK.due("its form", formOf(yard, 2), "1000 0 1000");
        CHECK.due("again", yard.meet(3, 2, 2), 1000000);
        yard.remainder(4, 1, 1, 7);
        CHECK.refused("above", yard, IllegalStateException.class, () -> yard.meet(2, 2, 4));
        CHECK.due("join of the greatest", yard.join(5, 2, 4), 1);
        yard.spanned(0, 499, 1, 0, 499);
        yard.spanned(1, 500, 0, 1, 500);
        CHECK.refused("far above", yard, IllegalStateException.class, () -> yard.meet(6, 0, 1));
        for (int round = 0; round < 3000; round++) {
            yard.remainder(0, CHECK.draw(-1000, 1000), CHECK.draw(-1000, 1000), CHECK.draw(1, 1000));
            yard.remainder(1, CHECK.draw(-1000, 1000), CHECK.draw(-1000, 1000), CHECK.draw(1, 1000));
            long met = yard.meet(2, 0, 1);
            long joined = yard.join(3, 0, 1);
            String what = formOf(yard, 0) + " and " + formOf(yard, 1);
            CHECK.due("product " + what, met * joined, (long) indexOf(yard, 0) * indexOf(yard, 1));
            CHECK.due("index " + what, indexOf(yard, 2), met);
            CHECK.due("within one " + what, yard.parts(2, 0), met / indexOf(yard, 0));
            CHECK.due("within other " + what, yard.parts(2, 1), met / indexOf(yard, 1));
            CHECK.due("one within " + what, yard.parts(0, 3), indexOf(yard, 0) / joined);
            CHECK.due("other within " + what, yard.parts(1, 3), indexOf(yard, 1) / joined);
        }
    }

    private static void undoing() {
        Latticeyard yard = new Latticeyard();
        CHECK.refused("nothing kept", yard, NoSuchElementException.class, () -> yard.undo());
        yard.nth(4, 5, 2);
        long before = yard.checksum();
        yard.nth(4, 5, 2);
        CHECK.due("undo of the same", yard.undo(), 4);
        CHECK.due("it still stands", yard.checksum(), before);
        CHECK.due("undo of the first", yard.undo(), 4);
        CHECK.due("none held", yard.held(), 0);
        CHECK.refused("no more kept", yard, NoSuchElementException.class, () -> yard.undo());
        for (int call = 0; call < 13; call++) {
            yard.nth(call % 3, 20, call);
        }
        for (int call = 12; call >= 3; call--) {
            CHECK.due("b of call " + call, yard.form(call % 3, 'b'), call);
            CHECK.due("undo " + call, yard.undo(), call % 3);
        }
        CHECK.refused("only ten kept", yard, NoSuchElementException.class, () -> yard.undo());
        CHECK.due("held", yard.held(), 3);
        CHECK.due("the third stands", yard.form(2, 'b'), 2);
        keptKinds();
    }

    /** All five calls that let a slot become something are kept, refused ones are not. */
    private static void keptKinds() {
        Latticeyard yard = new Latticeyard();
        yard.spanned(0, 2, 0, 0, 3);
        yard.remainder(1, 1, 1, 2);
        yard.nth(2, 6, 0);
        yard.meet(3, 0, 1);
        yard.join(4, 0, 1);
        CHECK.due("refused", Check.answerOf(() -> yard.spanned(5, 0, 0, 0, 0)), "UnsupportedOperationException");
        CHECK.due("refused", Check.answerOf(() -> yard.nth(5, 6, 12)), "NoSuchElementException");
        for (int slot = 4; slot >= 0; slot--) {
            CHECK.due("held", yard.held(), slot + 1);
            CHECK.due("undo", yard.undo(), slot);
        }
        CHECK.due("held", yard.held(), 0);
    }
}
