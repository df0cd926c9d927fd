import java.util.NoSuchElementException;

/** A map of spots with heights: triangles, heights between the spots, contours and labels. */
public final class SpotContours {
    private static final int MOST_SPOTS = 16;
    private static final int PAIRS = MOST_SPOTS * MOST_SPOTS;
    private static final int SIDE = 64;
    private static final int TOP_HEIGHT = 999;
    private static final int TOP_LEVEL = 998;
    private static final int CORNERS = 3;
    private static final int RING = 1000;
    private static final int NONE = -1;

    private final Spots spots;
    private final Mesh mesh;
    private final Lines lines;
    private final Tags tags;

    public SpotContours() {
        spots = new Spots();
        mesh = new Mesh();
        lines = new Lines();
        tags = new Tags();
    }

    public int spot(int x, int y, int height) throws IllegalArgumentException, IllegalStateException {
        if (!isOnMap(x, y) || !isHeight(height) || spots.isTaken(x, y)) {
            throw new IllegalArgumentException();
        }
        if (spots.size() >= MOST_SPOTS) {
            throw new IllegalStateException();
        }
        int number = spots.add(x, y, height);
        mesh.rebuild(spots);
        tags.cutTo(0);
        return number;
    }

    public int raise(int spot, int height) throws IndexOutOfBoundsException, IllegalArgumentException {
        if (!spots.isNumber(spot)) {
            throw new IndexOutOfBoundsException();
        }
        if (!isHeight(height)) {
            throw new IllegalArgumentException();
        }
        int before = spots.height(spot);
        spots.setHeight(spot, height);
        tags.cutTo(0);
        return before;
    }

    public int triangles() {
        return mesh.size();
    }

    public int corner(int i, int k) throws IndexOutOfBoundsException {
        if (i < 0 || i >= mesh.size() || k < 0 || k >= CORNERS) {
            throw new IndexOutOfBoundsException();
        }
        return mesh.cornerOf(i, k);
    }

    public int edge(int a, int b) throws IndexOutOfBoundsException {
        if (!spots.isNumber(a) || !spots.isNumber(b)) {
            throw new IndexOutOfBoundsException();
        }
        return mesh.sharing(a, b);
    }

    public int at(int x, int y) throws NoSuchElementException {
        // All triangles are on the map, and the sums for a place far off it would overflow.
        int height = isOnMap(x, y) ? mesh.heightAt(spots, x, y) : NONE;
        if (height == NONE) {
            throw new NoSuchElementException();
        }
        return height;
    }

    public int contours(int level) throws IllegalArgumentException {
        traceLevel(level);
        return lines.size();
    }

    public int contour(int level, int k) throws IllegalArgumentException, IndexOutOfBoundsException {
        traceLevel(level);
        if (!lines.isLine(k)) {
            throw new IndexOutOfBoundsException();
        }
        int length = lines.length(k);
        if (!lines.isRing(k)) {
            return length;
        }
        return lines.isHollow(spots, k) ? length + 2 * RING : length + RING;
    }

    public int crossing(int level, int k, int j) throws IllegalArgumentException, IndexOutOfBoundsException {
        traceLevel(level);
        int pair = pairAt(k, j);
        int high = highOf(pair);
        int low = lowOf(pair);
        return MOST_SPOTS * Math.min(high, low) + Math.max(high, low);
    }

    public int place(int level, int k, int j) throws IllegalArgumentException, IndexOutOfBoundsException {
        traceLevel(level);
        int pair = pairAt(k, j);
        return SIDE * spots.crossingX(pair, level) + spots.crossingY(pair, level);
    }

    public int label(int level) throws IllegalArgumentException, IllegalStateException {
        traceLevel(level);
        int before = tags.size();
        for (int k = 0; k < lines.size(); k++) {
            int pair = firstFreePair(level, k);
            if (pair == NONE) {
                continue;
            }
            if (tags.isFull()) {
                tags.cutTo(before);
                throw new IllegalStateException();
            }
            tags.add(level, spots.crossingX(pair, level), spots.crossingY(pair, level));
        }
        return tags.size() - before;
    }

    public int labels() {
        return tags.size();
    }

    public int labelOf(int i, int what) throws IndexOutOfBoundsException, IllegalArgumentException {
        if (i < 0 || i >= tags.size()) {
            throw new IndexOutOfBoundsException();
        }
        switch (what) {
            case 0:
                return tags.level(i);
            case 1:
                return tags.x(i);
            case 2:
                return tags.y(i);
            default:
                throw new IllegalArgumentException();
        }
    }

    public int wipe() {
        int before = tags.size();
        tags.cutTo(0);
        return before;
    }

    private static boolean isOnMap(int x, int y) {
        return x >= 0 && x < SIDE && y >= 0 && y < SIDE;
    }

    private static boolean isHeight(int height) {
        return height >= 0 && height <= TOP_HEIGHT;
    }

    private void traceLevel(int level) {
        if (level < 0 || level > TOP_LEVEL) {
            throw new IllegalArgumentException();
        }
        lines.trace(spots, mesh, level);
    }

    /** A crossing is held as one number, its pair: 16 times its high spot, + the low one. */
    private static int highOf(int pair) {
        return pair / MOST_SPOTS;
    }

    private static int lowOf(int pair) {
        return pair % MOST_SPOTS;
    }

    private int pairAt(int k, int j) {
        if (!lines.isLine(k) || j < 0 || j >= lines.length(k)) {
            throw new IndexOutOfBoundsException();
        }
        return lines.pair(k, j);
    }

    private int firstFreePair(int level, int k) {
        for (int j = 0; j < lines.length(k); j++) {
            int pair = lines.pair(k, j);
            int x = spots.crossingX(pair, level);
            int y = spots.crossingY(pair, level);
            if (!Tags.coversSpot(spots, x, y) && !tags.clashesAt(x, y)) {
                return pair;
            }
        }
        return NONE;
    }

    /** The spots by number, and the exact geometry of them. */
    private static final class Spots {
        private final int[] xs = new int[MOST_SPOTS];
        private final int[] ys = new int[MOST_SPOTS];
        private final int[] heights = new int[MOST_SPOTS];
        private int count;

        int size() {
            return count;
        }

        boolean isNumber(int s) {
            return s >= 0 && s < count;
        }

        int x(int s) {
            return xs[s];
        }

        int y(int s) {
            return ys[s];
        }

        int height(int s) {
            return heights[s];
        }

        void setHeight(int s, int height) {
            heights[s] = height;
        }

        boolean isTaken(int x, int y) {
            for (int s = 0; s < count; s++) {
                if (xs[s] == x && ys[s] == y) {
                    return true;
                }
            }
            return false;
        }

        /** The caller has seen to it that there is room. */
        int add(int x, int y, int height) {
            xs[count] = x;
            ys[count] = y;
            heights[count] = height;
            count++;
            return count - 1;
        }

        /** More than 0 when a, b, c turn left, less when right, 0 in a line; twice the area between them. */
        int turn(int a, int b, int c) {
            return turnTo(a, b, xs[c], ys[c]);
        }

        int turnTo(int a, int b, int x, int y) {
            return (xs[b] - xs[a]) * (y - ys[a]) - (ys[b] - ys[a]) * (x - xs[a]);
        }

        /** Whether d is in the circle through a, b, c, which are not in a line, and of which a has the least number. */
        boolean isInCircle(int a, int b, int c, int d) {
            long depth = depthInCircle(a, b, c, d);
            if (depth != 0) {
                return depth > 0;
            }
            // So the least of the four is a or d.
            return a < d && !areOpposite(a, d, b, c);
        }

        /** More than 0 when d is nearer to the middle than a, b, c, 0 when as near, less when farther. */
        private long depthInCircle(int a, int b, int c, int d) {
            long determinant = squareFrom(d, a) * turn(d, b, c)
                    - squareFrom(d, b) * turn(d, a, c)
                    + squareFrom(d, c) * turn(d, a, b);
            return turn(a, b, c) > 0 ? determinant : -determinant;
        }

        private long squareFrom(int d, int s) {
            long dx = xs[s] - xs[d];
            long dy = ys[s] - ys[d];
            return dx * dx + dy * dy;
        }

        /** Whether the line through a and d parts b from c, when all four are on one circle. */
        private boolean areOpposite(int a, int d, int b, int c) {
            return turn(a, d, b) > 0 != turn(a, d, c) > 0;
        }

        int crossingX(int pair, int level) {
            return crossingOf(xs, pair, level);
        }

        int crossingY(int pair, int level) {
            return crossingOf(ys, pair, level);
        }

        private int crossingOf(int[] axis, int pair, int level) {
            int high = highOf(pair);
            int low = lowOf(pair);
            int rise = heights[high] - heights[low];
            if (rise <= 0) {
                // No crossing is so; but the divisor must not be 0.
                return axis[low];
            }
            int part = (axis[high] - axis[low]) * (2 * level + 1 - 2 * heights[low]);
            return axis[low] + Math.floorDiv(part, 2 * rise);
        }
    }

    /** The triangles between the spots. */
    private static final class Mesh {
        /** n spots, h of them at the border, have 2 n - 2 - h triangles, and h is 3 or more. */
        private static final int MOST_TRIANGLES = 2 * MOST_SPOTS - 5;

        private final int[] corners = new int[CORNERS * MOST_TRIANGLES];
        /** For spots a and b the third one of the triangle to the right of who goes from a to b, or NONE. */
        private final int[] rightOf = new int[PAIRS];
        private int count;

        Mesh() {
            clear();
        }

        int size() {
            return count;
        }

        int cornerOf(int i, int k) {
            return corners[CORNERS * i + k];
        }

        int thirdRightOf(int a, int b) {
            return rightOf[MOST_SPOTS * a + b];
        }

        int sharing(int a, int b) {
            if (a == b) {
                return 0;
            }
            int right = thirdRightOf(a, b) == NONE ? 0 : 1;
            int left = thirdRightOf(b, a) == NONE ? 0 : 1;
            return right + left;
        }

        void rebuild(Spots spots) {
            clear();
            for (int a = 0; a < spots.size(); a++) {
                for (int b = a + 1; b < spots.size(); b++) {
                    for (int c = b + 1; c < spots.size(); c++) {
                        if (count < MOST_TRIANGLES && isTriangle(spots, a, b, c)) {
                            add(a, b, c, spots.turn(a, b, c) < 0);
                        }
                    }
                }
            }
        }

        private void clear() {
            count = 0;
            for (int i = 0; i < PAIRS; i++) {
                rightOf[i] = NONE;
            }
        }

        private static boolean isTriangle(Spots spots, int a, int b, int c) {
            if (spots.turn(a, b, c) == 0) {
                return false;
            }
            for (int d = 0; d < spots.size(); d++) {
                if (d != a && d != b && d != c && spots.isInCircle(a, b, c, d)) {
                    return false;
                }
            }
            return true;
        }

        private void add(int a, int b, int c, boolean turnsRight) {
            int base = CORNERS * count;
            corners[base] = a;
            corners[base + 1] = b;
            corners[base + 2] = c;
            count++;
            if (turnsRight) {
                addSides(a, b, c);
            } else {
                addSides(a, c, b);
            }
        }

        /** The three turn right. */
        private void addSides(int a, int b, int c) {
            rightOf[MOST_SPOTS * a + b] = c;
            rightOf[MOST_SPOTS * b + c] = a;
            rightOf[MOST_SPOTS * c + a] = b;
        }

        /** The height at a place of the map, or NONE when it is in no triangle. */
        int heightAt(Spots spots, int x, int y) {
            for (int i = 0; i < count; i++) {
                int height = heightIn(spots, i, x, y);
                if (height != NONE) {
                    return height;
                }
            }
            return NONE;
        }

        private int heightIn(Spots spots, int i, int x, int y) {
            int a = cornerOf(i, 0);
            int b = cornerOf(i, 1);
            int c = cornerOf(i, 2);
            int sign = spots.turn(a, b, c) > 0 ? 1 : -1;
            int toA = sign * spots.turnTo(b, c, x, y);
            int toB = sign * spots.turnTo(c, a, x, y);
            int toC = sign * spots.turnTo(a, b, x, y);
            int all = toA + toB + toC;
            if (toA < 0 || toB < 0 || toC < 0 || all == 0) {
                return NONE;
            }
            return Math.floorDiv(toA * spots.height(a) + toB * spots.height(b) + toC * spots.height(c), all);
        }
    }

    /**
     * The contours of one level. They are traced for each call anew, so that nothing need be kept in step with
     * the heights.
     */
    private static final class Lines {
        private static final int MOST_CROSSINGS = MOST_SPOTS * (MOST_SPOTS - 1) / 2;

        private final boolean[] isHigh = new boolean[MOST_SPOTS];
        /** All crossings, contour behind contour. */
        private final int[] pairs = new int[MOST_CROSSINGS];
        /** Where each contour starts in pairs, and behind the last one where it ends. */
        private final int[] starts = new int[MOST_CROSSINGS + 1];
        private final boolean[] rings = new boolean[MOST_CROSSINGS];
        private final boolean[] isTraced = new boolean[PAIRS];
        private int count;

        int size() {
            return count;
        }

        boolean isLine(int k) {
            return k >= 0 && k < count;
        }

        int length(int k) {
            return starts[k + 1] - starts[k];
        }

        boolean isRing(int k) {
            return rings[k];
        }

        int pair(int k, int j) {
            return pairs[starts[k] + j];
        }

        /** Whether the spot with the least x of the ring's crossings is high: it is outside the ring. */
        boolean isHollow(Spots spots, int k) {
            int leftmost = highOf(pair(k, 0));
            for (int j = 0; j < length(k); j++) {
                leftmost = moreLeft(spots, leftmost, highOf(pair(k, j)));
                leftmost = moreLeft(spots, leftmost, lowOf(pair(k, j)));
            }
            return isHigh[leftmost];
        }

        private static int moreLeft(Spots spots, int s, int t) {
            return spots.x(t) < spots.x(s) ? t : s;
        }

        /** Edges are looked at from the least on, so an untraced crossing is the least of its contour. */
        void trace(Spots spots, Mesh mesh, int level) {
            clear();
            for (int s = 0; s < spots.size(); s++) {
                isHigh[s] = spots.height(s) > level;
            }
            for (int u = 0; u < spots.size(); u++) {
                for (int v = u + 1; v < spots.size(); v++) {
                    if (isHigh[u] != isHigh[v] && mesh.sharing(u, v) > 0) {
                        traceFrom(mesh, isHigh[u] ? MOST_SPOTS * u + v : MOST_SPOTS * v + u);
                    }
                }
            }
        }

        private void clear() {
            count = 0;
            for (int i = 0; i < PAIRS; i++) {
                isTraced[i] = false;
            }
        }

        private void traceFrom(Mesh mesh, int least) {
            if (isTraced[least] || count >= MOST_CROSSINGS) {
                return;
            }
            int pair = beginning(mesh, least);
            rings[count] = before(mesh, pair) != NONE;
            int end = starts[count];
            for (int i = end; i < MOST_CROSSINGS && pair != NONE && !isTraced[pair]; i++) {
                pairs[i] = pair;
                isTraced[pair] = true;
                pair = behind(mesh, pair);
                end = i + 1;
            }
            count++;
            starts[count] = end;
        }

        /** The crossing at the border where the contour begins, or its least one if it is a ring. */
        private int beginning(Mesh mesh, int least) {
            int pair = least;
            for (int i = 0; i < MOST_CROSSINGS; i++) {
                int earlier = before(mesh, pair);
                if (earlier == NONE) {
                    return pair;
                }
                if (earlier == least) {
                    return least;
                }
                pair = earlier;
            }
            return least;
        }

        /** The crossing that this one goes on to, or NONE at the border. */
        private int behind(Mesh mesh, int pair) {
            int high = highOf(pair);
            int low = lowOf(pair);
            return otherPair(high, low, mesh.thirdRightOf(low, high));
        }

        /** The crossing that goes on to this one, or NONE at the border. */
        private int before(Mesh mesh, int pair) {
            int high = highOf(pair);
            int low = lowOf(pair);
            return otherPair(high, low, mesh.thirdRightOf(high, low));
        }

        /** The other crossing in the triangle of a crossing and a third spot. */
        private int otherPair(int high, int low, int third) {
            if (third == NONE) {
                return NONE;
            }
            return isHigh[third] ? MOST_SPOTS * third + low : MOST_SPOTS * high + third;
        }
    }

    /** The labels in the order in which they came. */
    private static final class Tags {
        private static final int MOST_TAGS = 20;
        /** How far a label reaches from its place to either side. */
        private static final int REACH_X = 3;
        private static final int REACH_Y = 1;

        private final int[] levels = new int[MOST_TAGS];
        private final int[] xs = new int[MOST_TAGS];
        private final int[] ys = new int[MOST_TAGS];
        private int count;

        int size() {
            return count;
        }

        boolean isFull() {
            return count >= MOST_TAGS;
        }

        int level(int i) {
            return levels[i];
        }

        int x(int i) {
            return xs[i];
        }

        int y(int i) {
            return ys[i];
        }

        /** The caller has seen to it that there is room. */
        void add(int level, int x, int y) {
            levels[count] = level;
            xs[count] = x;
            ys[count] = y;
            count++;
        }

        void cutTo(int size) {
            count = size;
        }

        static boolean coversSpot(Spots spots, int x, int y) {
            for (int s = 0; s < spots.size(); s++) {
                if (Math.abs(spots.x(s) - x) <= REACH_X && Math.abs(spots.y(s) - y) <= REACH_Y) {
                    return true;
                }
            }
            return false;
        }

        /** Two labels share a place when they are no farther apart than both reach together. */
        boolean clashesAt(int x, int y) {
            for (int i = 0; i < count; i++) {
                if (Math.abs(xs[i] - x) <= 2 * REACH_X && Math.abs(ys[i] - y) <= 2 * REACH_Y) {
                    return true;
                }
            }
            return false;
        }
    }
}
