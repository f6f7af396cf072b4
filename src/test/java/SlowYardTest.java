import java.lang.reflect.InvocationTargetException;
import java.lang.reflect.Method;
import java.util.ArrayList;
import java.util.Arrays;
import java.util.Collections;
import java.util.HashMap;
import java.util.List;
import java.util.Map;

/**
 * Drawn runs of 512 calls on a Latticeyard and on a SlowYard: each answer, or exception, and the
 * checksum behind it are to be the same. A run that differs is told with its latest calls.
 */
public final class SlowYardTest {
    private static final Check CHECK = new Check();
    private static final int RUNS = 100;

    /** A call and the ranges of its numbers; a line that stands there twice is drawn twice as often. */
    private static final String[] CALLS = {
        "spanned 0:7 -5:5 -5:5 -5:5 -5:5", "spanned 0:7 -30:30 -30:30 -30:30 -30:30",
        "spanned 0:7 -500:500 -500:500 -500:500 -500:500", "spanned 0:7 -6:6 -6:6 -6:6 -6:6",
        "remainder 0:7 -9:9 -9:9 1:30", "remainder 0:7 -1000:1000 -1000:1000 1:1000",
        "nth 0:7 1:12 0:28", "nth 0:7 1:200 0:300", "grids 1:200",
        "form 0:7 97:99", "has 0:7 -40:40 -40:40", "has 0:7 -2147483648:2147483647 -9:9",
        "isSame 0:7 0:7", "parts 0:7 0:7", "parts 0:7 0:7", "meet 0:7 0:7 0:7", "meet 0:7 0:7 0:7",
        "join 0:7 0:7 0:7", "undo", "undo", "undo", "undo",
        "stepX 0:7 0:19", "stepY 0:7 0:19", "second 0:7", "steps 0:7 0:2500", "steps 0:7 0:100",
        "nearX 0:7 -2000:2000 -2000:2000", "nearY 0:7 -2000:2000 -2000:2000",
        "nearX 0:7 -9:9 -9:9", "nearY 0:7 -9:9 -9:9",
        "corners 0:7", "tellCorner 0:7 0:5 0:1", "tellCorner 0:7 0:5 0:1", "signAt 0:9",
        "coins 2:9 2:9 0:0 0:0", "coins 2:50 2:50 2:50 2:50", "coins 2:50 2:50 0:0 0:0",
        "coins 2:12 2:12 2:12 0:0", "lacks", "lackAt 0:20", "canMake 0:100", "canMake 0:2500",
        "fewest 0:60", "fewest 0:2500", "ways 0:90", "ways 0:2500",
        "corner -2:2 -2:2", "corner -4:4 -4:4", "corner -4:4 -4:4", "corner -20:20 -20:20",
        "corner -3:3 -3:3", "corner -3:3 -3:3", "clear", "close", "close", "close", "close", "close",
        "rim", "within", "where -4:4 -4:4", "where -20:20 -20:20", "isConvex", "grown 1:9",
        "grown 1:1000000000", "triangleAt 0:9 0:2", "triangleAt 0:4 0:2", "tiles 0:7",
        "seen 1:40", "seenAt 1:40 0:500", "seenAt 1:9 0:20", "leaps 0:4 0:4 -12:12 -12:12",
        "terms 1:200 1:200", "termAt 1:200 1:200 0:5", "hull 1:200 1:200", "hullAt 1:200 1:200 0:6",
        "held", "isSound"};

    private static final Map<String, Method> FAST = new HashMap<>();
    private static final Map<String, Method> SLOW = new HashMap<>();

    public static void main(String[] args) throws IllegalAccessException {
        collect(FAST, Latticeyard.class);
        collect(SLOW, SlowYard.class);
        for (int run = 0; run < RUNS; run++) {
            run(run);
        }
        CHECK.end();
    }

    private static void collect(Map<String, Method> methods, Class<?> from) {
        for (Method method : from.getDeclaredMethods()) {
            boolean isOfTheFace = Arrays.stream(CALLS).anyMatch(line -> line.split(" ")[0].equals(method.getName()));
            if (isOfTheFace || method.getName().equals("checksum")) {
                methods.put(method.getName(), method);
            }
        }
        CHECK.due("calls of " + from, methods.size(), 46);
    }

    /**
     * Half of the runs now and then type corners that are a polygon, as those drawn one by one seldom are;
     * all take back now and then all calls that are kept.
     */
    private static void run(int run) throws IllegalAccessException {
        Latticeyard fast = new Latticeyard();
        SlowYard slow = new SlowYard();
        List<String> told = new ArrayList<>();
        List<String> ahead = new ArrayList<>();
        for (int call = 0; call < 512; call++) {
            if (ahead.isEmpty() && run % 2 == 0 && CHECK.draw(1, 30) == 1) {
                ahead.addAll(polygonCalls());
            }
            if (ahead.isEmpty() && CHECK.draw(1, 80) == 1) {
                ahead.addAll(Collections.nCopies(12, "undo"));
            }
            String line = ahead.isEmpty() ? CALLS[CHECK.draw(0, CALLS.length - 1)] : ahead.remove(0);
            String name = line.split(" ")[0];
            Object[] numbers = draw(line, FAST.get(name).getParameterTypes());
            String due = answer(slow, SLOW.get(name), numbers);
            String got = answer(fast, FAST.get(name), numbers);
            told.add(name + Arrays.toString(numbers) + " " + got);
            String latest = "run " + run + ": " + told.subList(Math.max(0, told.size() - 30), told.size());
            CHECK.due(latest, got, due);
            CHECK.due(latest + ", checksum", fast.checksum(), slow.checksum());
            if (!got.equals(due)) {
                return;
            }
        }
    }

    /** Calls that close a polygon and ask for all of it; an upright one also by grids of as many squares. */
    private static List<String> polygonCalls() {
        boolean isUpright = CHECK.draw(0, 1) == 0;
        int[] corners = DrawnPolygon.draw(CHECK, isUpright);
        List<String> calls = new ArrayList<>(List.of("clear"));
        for (int place = 0; place < corners.length; place += 2) {
            calls.add("corner " + one(corners[place]) + " " + one(corners[place + 1]));
        }
        calls.addAll(List.of("close", "rim", "within", "isConvex", "grown 1:9", "grown 1:1000000000", "isSound"));
        for (int number = 0; number < corners.length / 2 - 2; number++) {
            calls.addAll(List.of("triangleAt " + one(number) + " 0:0", "triangleAt " + one(number) + " 1:1",
                    "triangleAt " + one(number) + " 2:2"));
        }
        int squares = DrawnPolygon.twiceArea(corners) / 2;
        for (int time = 0; time < 6; time++) {
            calls.add("where -4:4 -4:4");
            calls.add("where -20:20 -20:20");
            if (isUpright && squares <= 200) {
                calls.add("nth " + one(time) + " " + one(squares) + " 0:" + (2 * squares));
                calls.add("tiles " + one(time));
            }
        }
        return calls;
    }

    private static String one(int number) {
        return number + ":" + number;
    }

    /** Now and then a number that is next to its range, if that is more than one, or the least or the greatest int. */
    private static Object[] draw(String line, Class<?>[] types) {
        String[] ranges = line.split(" ");
        Object[] numbers = new Object[types.length];
        for (int place = 0; place < types.length; place++) {
            int least = Integer.parseInt(ranges[place + 1].split(":")[0]);
            int greatest = Integer.parseInt(ranges[place + 1].split(":")[1]);
            int[] odd = {least - 1, greatest + 1, Integer.MIN_VALUE, Integer.MAX_VALUE, 0, -greatest};
            boolean isOdd = least < greatest && CHECK.draw(1, 60) == 1;
            int number = isOdd ? odd[CHECK.draw(0, odd.length - 1)] : CHECK.draw(least, greatest);
            numbers[place] = number;
            if (types[place] == char.class) {
                numbers[place] = (char) number;
            } else if (types[place] == boolean.class) {
                numbers[place] = number == 1;
            }
        }
        return numbers;
    }

    private static String answer(Object yard, Method method, Object[] numbers) throws IllegalAccessException {
        try {
            return String.valueOf(method.invoke(yard, numbers));
        } catch (InvocationTargetException thrown) {
            return thrown.getCause().getClass().getSimpleName();
        }
    }
}
