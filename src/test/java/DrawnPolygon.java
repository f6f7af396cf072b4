import java.util.Arrays;

/** Corners, x and y by turns, that are drawn until they are a polygon, as a SlowYard tells. */
final class DrawnPolygon {
    private static final int MOST = 12;

    /** Three corners, or upright four, get more of them between two that are neighbours, as long as it goes. */
    static int[] draw(Check check, boolean isUpright) {
        int far = check.draw(0, 3) == 0 ? 20 : check.draw(1, 6);
        int[] corners = isUpright ? rectangle(check, far) : some(check, far, 6);
        while (!isPolygon(corners)) {
            corners = isUpright ? rectangle(check, far) : some(check, far, 6);
        }
        int wanted = check.draw(corners.length / 2, MOST);
        for (int time = 0; time < 60 && corners.length < 2 * wanted; time++) {
            int at = check.draw(0, corners.length / 2 - 1);
            int[] more = isUpright ? bulged(check, corners, at, far) : inserted(corners, at, some(check, far, 2));
            if (more.length <= 2 * MOST && isPolygon(more) && isUpright == isUpright(more)) {
                corners = more;
            }
        }
        return corners;
    }

    private static int[] some(Check check, int far, int count) {
        int[] numbers = new int[count];
        for (int place = 0; place < count; place++) {
            numbers[place] = check.draw(-far, far);
        }
        return numbers;
    }

    private static int[] rectangle(Check check, int far) {
        int[] two = some(check, far, 4);
        return new int[] {two[0], two[1], two[2], two[1], two[2], two[3], two[0], two[3]};
    }

    private static int[] inserted(int[] corners, int at, int[] added) {
        int[] more = Arrays.copyOf(corners, corners.length + added.length);
        System.arraycopy(added, 0, more, 2 * at, added.length);
        System.arraycopy(corners, 2 * at, more, 2 * at + added.length, corners.length - 2 * at);
        return more;
    }

    /** A part of an upright side is moved aside, or the side just gets a straight corner. */
    private static int[] bulged(Check check, int[] corners, int side, int far) {
        int next = (side + 1) % (corners.length / 2);
        int x = corners[2 * side];
        int y = corners[2 * side + 1];
        int u = corners[2 * next];
        int v = corners[2 * next + 1];
        int p = check.draw(Math.min(x, u), Math.max(x, u));
        int q = check.draw(Math.min(y, v), Math.max(y, v));
        int to = check.draw(-far, far);
        if (check.draw(0, 4) == 0) {
            return inserted(corners, side + 1, new int[] {p, q});
        }
        if (y == v) {
            return inserted(moved(corners, next, u, to), side + 1, new int[] {p, y, p, to});
        }
        return inserted(moved(corners, next, to, v), side + 1, new int[] {x, q, to, q});
    }

    private static int[] moved(int[] corners, int at, int x, int y) {
        int[] others = corners.clone();
        others[2 * at] = x;
        others[2 * at + 1] = y;
        return others;
    }

    private static boolean isPolygon(int[] corners) {
        SlowYard yard = new SlowYard();
        for (int place = 0; place < corners.length; place += 2) {
            yard.corner(corners[place], corners[place + 1]);
        }
        return yard.isPolygon();
    }

    private static boolean isUpright(int[] corners) {
        boolean isUpright = true;
        for (int place = 0; place < corners.length; place += 2) {
            int next = (place + 2) % corners.length;
            isUpright = isUpright && (corners[place] == corners[next] || corners[place + 1] == corners[next + 1]);
        }
        return isUpright;
    }

    static int twiceArea(int[] corners) {
        int sum = 0;
        for (int place = 0; place < corners.length; place += 2) {
            int next = (place + 2) % corners.length;
            sum += corners[place] * corners[next + 1] - corners[place + 1] * corners[next];
        }
        return Math.abs(sum);
    }
}
