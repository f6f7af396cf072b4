/** Promises 45 to 47: held, checksum and isSound. */
public final class FigureTest {
    private static final Check CHECK = new Check();

    public static void main(String[] args) {
        heldSlots();
        sums();
        soundYards();
        CHECK.end();
    }

    private static void heldSlots() {
        Latticeyard yard = new Latticeyard();
        for (int slot = 7; slot >= 0; slot--) {
            yard.nth(slot, 3, slot % 4);
            CHECK.due("held", yard.held(), 8 - slot);
            yard.nth(slot, 3, 0);
            CHECK.due("held as before", yard.held(), 8 - slot);
        }
        yard.undo();
        CHECK.due("held behind an undo", yard.held(), 8);
        yard.undo();
        CHECK.due("held behind two", yard.held(), 7);
    }

    private static long sum(long... numbers) {
        long sum = 7;
        for (long number : numbers) {
            sum = 31 * sum + number;
        }
        return sum;
    }

    private static void sums() {
        Latticeyard yard = new Latticeyard();
        CHECK.due("empty", yard.checksum(), sum(0, 0, 0, 0, 0, 0, 0, 0));
        yard.spanned(3, 2, 1, 0, 3);
        CHECK.due("one grid", yard.checksum(), sum(0, 0, 0, 2, 1, 3, 0, 0, 0, 0));
        yard.nth(7, 5, 4);
        CHECK.due("two grids", yard.checksum(), sum(0, 0, 0, 2, 1, 3, 0, 0, 0, 1, 4, 5));
        yard.coins(9, 4, 0, 0);
        CHECK.due("two coins", yard.checksum(), sum(0, 0, 0, 2, 1, 3, 0, 0, 0, 1, 4, 5, 9, 4));
        yard.coins(9, 4, 7, 0);
        CHECK.due("three coins", yard.checksum(), sum(0, 0, 0, 2, 1, 3, 0, 0, 0, 1, 4, 5, 9, 4, 7));
        yard.coins(9, 4, 7, 2);
        CHECK.due("four coins", yard.checksum(), sum(0, 0, 0, 2, 1, 3, 0, 0, 0, 1, 4, 5, 9, 4, 7, 2));
        yard.corner(-5, 0);
        yard.corner(3, -4);
        yard.corner(6, 6);
        long[] all = {0, 0, 0, 2, 1, 3, 0, 0, 0, 1, 4, 5, 9, 4, 7, 2, -5, 0, 3, -4, 6, 6};
        CHECK.due("corners", yard.checksum(), sum(all));
        yard.close();
        CHECK.due("closed", yard.checksum(), sum(all));
        yard.tellCorner(7, 0, true);
        yard.tellCorner(7, 0, false);
        // The place 17/10, 7/10 is as far from 0, 0 as from 1, -1 and from 3, 2.
        CHECK.due("text", Check.textOf(yard), "7/10");
        long[] told = java.util.Arrays.copyOf(all, all.length + 4);
        told[all.length] = '7';
        told[all.length + 1] = '/';
        told[all.length + 2] = '1';
        told[all.length + 3] = '0';
        CHECK.due("with text", yard.checksum(), sum(told));
        yard.clear();
        yard.undo();
        yard.undo();
        CHECK.due("what is left", yard.checksum(), sum(0, 0, 0, 0, 0, 0, 0, 0, 9, 4, 7, 2, '7', '/', '1', '0'));
        yard.stepX(restored(yard), 3);
        CHECK.due("asking changes nothing", yard.checksum(), sum(1, 0, 1, 0, 0, 0, 0, 0, 0, 0, 9, 4, 7, 2, '7', '/', '1', '0'));
    }

    private static int restored(Latticeyard yard) {
        yard.remainder(0, 1, 1, 1);
        yard.seenAt(40, 3);
        yard.leaps(1, 2, 3, 4);
        yard.hullAt(7, 5, 1);
        yard.isSound();
        return 0;
    }

    private static void soundYards() {
        Latticeyard yard = new Latticeyard();
        CHECK.yes("empty", yard.isSound());
        yard.remainder(0, 1, 0, 1000);
        yard.remainder(1, 0, 1, 1000);
        yard.meet(2, 0, 1);
        yard.remainder(3, 3, 5, 997);
        CHECK.yes("a meet above the greatest index", yard.isSound());
        yard.coins(49, 50, 0, 0);
        CHECK.yes("two kinds", yard.isSound());
        yard.coins(2, 3, 0, 0);
        CHECK.yes("the least kinds", yard.isSound());
        yard.coins(6, 10, 15, 0);
        CHECK.yes("three kinds", yard.isSound());
        yard.corner(-20, -20);
        yard.corner(20, -20);
        yard.corner(20, 20);
        CHECK.yes("not closed", yard.isSound());
        yard.close();
        CHECK.yes("closed", yard.isSound());
        yard.triangleAt(0, 0);
        for (int round = 0; round < 200; round++) {
            for (int slot = 0; slot < 8; slot++) {
                yard.remainder(slot, CHECK.draw(-1000, 1000), CHECK.draw(-1000, 1000), CHECK.draw(1, 1000));
            }
            long before = yard.checksum();
            CHECK.yes("eight grids", yard.isSound());
            CHECK.due("it changes nothing", yard.checksum(), before);
        }
        CHECK.due("ten are still kept", yard.undo(), 7);
    }
}
