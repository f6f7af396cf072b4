import java.lang.reflect.Field;

/**
 * Promise 47 from the other side. No call can make a yard unsound, so this test breaks what a yard
 * holds behind its back, and looks whether isSound tells.
 */
public final class SoundTest {
    private static final Check CHECK = new Check();

    public static void main(String[] args) throws ReflectiveOperationException {
        grids();
        lacks();
        polygons();
        CHECK.end();
    }

    private static Object inside(Object of, String name) throws ReflectiveOperationException {
        return field(of, name).get(of);
    }

    private static Field field(Object of, String name) throws ReflectiveOperationException {
        Field field = of.getClass().getDeclaredField(name);
        field.setAccessible(true);
        return field;
    }

    /** Each slot is looked at: a grid whose c is below 0 has no points at all. */
    private static void grids() throws ReflectiveOperationException {
        for (int slot = 0; slot < 8; slot++) {
            Latticeyard yard = new Latticeyard();
            yard.nth(slot, 6, 4);
            CHECK.yes("sound", yard.isSound());
            Object grid = ((Object[]) inside(yard, "slots"))[slot];
            field(grid, "c").setInt(grid, -6);
            CHECK.yes("a broken grid in slot " + slot, !yard.isSound());
        }
    }

    private static void lacks() throws ReflectiveOperationException {
        for (int sum = 0; sum <= 7; sum++) {
            Latticeyard two = new Latticeyard();
            two.coins(3, 5, 0, 0);
            CHECK.yes("sound", two.isSound());
            int[] counts = (int[]) inside(inside(two, "purse"), "coinCounts");
            counts[sum] = counts[sum] < 0 ? 1 : -1;
            CHECK.yes("one sum is told wrong: " + sum, !two.isSound());
        }
        Latticeyard count = new Latticeyard();
        count.coins(3, 5, 0, 0);
        Object purse = inside(count, "purse");
        field(purse, "lackCount").setInt(purse, 3);
        CHECK.yes("not half of the sums", !count.isSound());
        Latticeyard three = new Latticeyard();
        three.coins(3, 5, 7, 0);
        CHECK.yes("three kinds need not be half", three.isSound());
    }

    /** Two corners change places behind the closing, so that two sides cross. */
    private static void polygons() throws ReflectiveOperationException {
        Latticeyard yard = Edge.shut(0, 0, 4, 0, 4, 4, 0, 4);
        CHECK.yes("sound", yard.isSound());
        int[] xs = (int[]) inside(inside(yard, "polygon"), "xs");
        xs[0] = 4;
        xs[1] = 0;
        CHECK.yes("sides that cross", !yard.isSound());
        yard.corner(9, 9);
        CHECK.yes("corners that are not closed are not looked at", yard.isSound());
    }
}
