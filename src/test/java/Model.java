import java.util.ArrayList;
import java.util.Arrays;
import java.util.Collections;
import java.util.HashMap;
import java.util.HashSet;
import java.util.List;
import java.util.Map;
import java.util.NoSuchElementException;
import java.util.Set;
import java.util.TreeMap;
import java.util.TreeSet;

/** The document once more, slowly and by other ways: middles of circles, angles, sets of places. */
final class Model {
    private final List<int[]> spots = new ArrayList<>();
    private final List<int[]> labels = new ArrayList<>();
    private List<int[]> triangles = new ArrayList<>();

    int spot(int x, int y, int height) {
        boolean isTaken = spots.stream().anyMatch(s -> s[0] == x && s[1] == y);
        if (x < 0 || x > 63 || y < 0 || y > 63 || height < 0 || height > 999 || isTaken) {
            throw new IllegalArgumentException();
        }
        if (spots.size() == 16) {
            throw new IllegalStateException();
        }
        spots.add(new int[] {x, y, height});
        triangles = findTriangles();
        labels.clear();
        return spots.size() - 1;
    }

    int raise(int spot, int height) {
        needSpot(spot);
        if (height < 0 || height > 999) {
            throw new IllegalArgumentException();
        }
        int was = spots.get(spot)[2];
        spots.get(spot)[2] = height;
        labels.clear();
        return was;
    }

    int triangles() {
        return triangles.size();
    }

    int corner(int i, int k) {
        if (i < 0 || i >= triangles.size() || k < 0 || k > 2) {
            throw new IndexOutOfBoundsException();
        }
        return triangles.get(i)[k];
    }

    int edge(int a, int b) {
        needSpot(a);
        needSpot(b);
        int count = 0;
        for (int[] t : triangles) {
            boolean hasA = t[0] == a || t[1] == a || t[2] == a;
            boolean hasB = t[0] == b || t[1] == b || t[2] == b;
            count += a != b && hasA && hasB ? 1 : 0;
        }
        return count;
    }

    /** All triangles that the place is in must tell the same. */
    int at(int x, int y) {
        Set<Integer> heights = new HashSet<>();
        for (int[] t : triangles) {
            int[] a = spots.get(t[0]);
            int[] b = spots.get(t[1]);
            int[] c = spots.get(t[2]);
            if (isInside(a, b, c, x, y)) {
                heights.add(planeAt(a, b, c, x, y));
            }
        }
        if (heights.isEmpty()) {
            throw new NoSuchElementException();
        }
        if (heights.size() > 1) {
            throw new AssertionError("two heights at one place");
        }
        return heights.iterator().next();
    }

    int contours(int level) {
        return contoursOf(level).size();
    }

    int contour(int level, int k) {
        List<int[]> contour = contourOf(level, k);
        int[] first = contour.get(0);
        int[] last = contour.get(contour.size() - 1);
        if (!Arrays.equals(goesOn(level).get(code(last)), first)) {
            return contour.size();
        }
        return contour.size() + (isHollow(level, contour) ? 2000 : 1000);
    }

    int crossing(int level, int k, int j) {
        return code(crossingOf(level, k, j));
    }

    int place(int level, int k, int j) {
        int[] place = placeOf(level, crossingOf(level, k, j));
        return 64 * place[0] + place[1];
    }

    int label(int level) {
        List<int[]> came = new ArrayList<>();
        for (List<int[]> contour : contoursOf(level)) {
            for (int[] crossing : contour) {
                int[] place = placeOf(level, crossing);
                if (isFree(place, labels) && isFree(place, came)) {
                    came.add(new int[] {level, place[0], place[1]});
                    break;
                }
            }
        }
        if (labels.size() + came.size() > 20) {
            throw new IllegalStateException();
        }
        labels.addAll(came);
        return came.size();
    }

    int labels() {
        return labels.size();
    }

    int labelOf(int i, int what) {
        if (i < 0 || i >= labels.size()) {
            throw new IndexOutOfBoundsException();
        }
        if (what < 0 || what > 2) {
            throw new IllegalArgumentException();
        }
        return labels.get(i)[what];
    }

    int wipe() {
        int were = labels.size();
        labels.clear();
        return were;
    }

    /** Twice the area of all triangles, which is that of the space between all spots. */
    long doubleArea() {
        long area = 0;
        for (int[] t : triangles) {
            area += Math.abs(turn(spots.get(t[0]), spots.get(t[1]), spots.get(t[2])));
        }
        return area;
    }

    /** Twice the area between all spots, from the spots alone: its sides have all spots on one side or on them. */
    long doubleHullArea() {
        long area = 0;
        for (int[] a : spots) {
            int[] next = null;
            for (int[] b : spots) {
                boolean isSide = a != b && spots.stream().allMatch(c -> turn(a, b, c) > 0
                        || turn(a, b, c) == 0 && (long) (c[0] - a[0]) * (c[0] - b[0]) + (long) (c[1] - a[1]) * (c[1] - b[1]) <= 0);
                next = isSide ? b : next;
            }
            area += next == null ? 0 : (long) a[0] * next[1] - (long) a[1] * next[0];
        }
        return area;
    }

    private void needSpot(int s) {
        if (s < 0 || s >= spots.size()) {
            throw new IndexOutOfBoundsException();
        }
    }

    private static long turn(int[] a, int[] b, int[] c) {
        return (long) (b[0] - a[0]) * (c[1] - a[1]) - (long) (b[1] - a[1]) * (c[0] - a[0]);
    }

    private List<int[]> findTriangles() {
        List<int[]> found = new ArrayList<>();
        int n = spots.size();
        for (int a = 0; a < n; a++) {
            for (int b = a + 1; b < n; b++) {
                for (int c = b + 1; c < n; c++) {
                    boolean isTriangle = turn(spots.get(a), spots.get(b), spots.get(c)) != 0;
                    for (int d = 0; d < n && isTriangle; d++) {
                        isTriangle = d == a || d == b || d == c || !isIn(a, b, c, d);
                    }
                    if (isTriangle) {
                        found.add(new int[] {a, b, c});
                    }
                }
            }
        }
        return found;
    }

    private boolean isIn(int a, int b, int c, int d) {
        long[] middle = middle(spots.get(a), spots.get(b), spots.get(c));
        long far = distance(middle, spots.get(a));
        long near = distance(middle, spots.get(d));
        if (near != far) {
            return near < far;
        }
        List<Integer> around = new ArrayList<>(List.of(a, b, c, d));
        around.sort((p, q) -> Double.compare(angle(middle, spots.get(p)), angle(middle, spots.get(q))));
        int least = Collections.min(around);
        int opposite = around.get((around.indexOf(d) + 2) % 4);
        return least != d && least != opposite;
    }

    /** x and y of the middle of a circle, times a number that stands behind them. */
    private static long[] middle(int[] a, int[] b, int[] c) {
        long twice = 2 * turn(a, b, c);
        long sa = (long) a[0] * a[0] + (long) a[1] * a[1];
        long sb = (long) b[0] * b[0] + (long) b[1] * b[1];
        long sc = (long) c[0] * c[0] + (long) c[1] * c[1];
        long x = sa * (b[1] - c[1]) + sb * (c[1] - a[1]) + sc * (a[1] - b[1]);
        long y = sa * (c[0] - b[0]) + sb * (a[0] - c[0]) + sc * (b[0] - a[0]);
        return new long[] {x, y, twice};
    }

    private static long distance(long[] middle, int[] s) {
        long dx = s[0] * middle[2] - middle[0];
        long dy = s[1] * middle[2] - middle[1];
        return dx * dx + dy * dy;
    }

    private static double angle(long[] middle, int[] s) {
        return Math.atan2(s[1] - (double) middle[1] / middle[2], s[0] - (double) middle[0] / middle[2]);
    }

    private static boolean isInside(int[] a, int[] b, int[] c, int x, int y) {
        if (x < 0 || x > 63 || y < 0 || y > 63) {
            return false;
        }
        int[] p = {x, y};
        long[] turns = {turn(a, b, p), turn(b, c, p), turn(c, a, p)};
        Arrays.sort(turns);
        return turns[0] >= 0 || turns[2] <= 0;
    }

    /** The plane is z = az + (nx dx + ny dy) / nz, with the cross product of two sides as its normal. */
    private static int planeAt(int[] a, int[] b, int[] c, int x, int y) {
        long ux = b[0] - a[0];
        long uy = b[1] - a[1];
        long uz = b[2] - a[2];
        long vx = c[0] - a[0];
        long vy = c[1] - a[1];
        long vz = c[2] - a[2];
        long nx = uy * vz - uz * vy;
        long ny = uz * vx - ux * vz;
        long nz = ux * vy - uy * vx;
        return (int) (a[2] + Math.floorDiv(-(nx * (x - a[0]) + ny * (y - a[1])), nz));
    }

    private static void needLevel(int level) {
        if (level < 0 || level > 998) {
            throw new IllegalArgumentException();
        }
    }

    private boolean isHigh(int level, int s) {
        return spots.get(s)[2] > level;
    }

    /** A crossing is its high spot and its low one. */
    private static int code(int[] crossing) {
        return 16 * Math.min(crossing[0], crossing[1]) + Math.max(crossing[0], crossing[1]);
    }

    private Map<Integer, int[]> crossings(int level) {
        Map<Integer, int[]> found = new TreeMap<>();
        for (int[] t : triangles) {
            for (int h : t) {
                for (int w : t) {
                    if (isHigh(level, h) && !isHigh(level, w)) {
                        found.put(code(new int[] {h, w}), new int[] {h, w});
                    }
                }
            }
        }
        return found;
    }

    /** For each crossing that goes on, the one that it goes on to. */
    private Map<Integer, int[]> goesOn(int level) {
        Map<Integer, int[]> on = new HashMap<>();
        for (int[] t : triangles) {
            for (int h : t) {
                for (int w : t) {
                    int third = t[0] + t[1] + t[2] - h - w;
                    if (isHigh(level, h) && !isHigh(level, w) && turn(spots.get(w), spots.get(h), spots.get(third)) < 0) {
                        int[] other = isHigh(level, third) ? new int[] {third, w} : new int[] {h, third};
                        if (on.put(code(new int[] {h, w}), other) != null) {
                            throw new AssertionError("a crossing goes on to two");
                        }
                    }
                }
            }
        }
        return on;
    }

    private List<List<int[]>> contoursOf(int level) {
        needLevel(level);
        Map<Integer, int[]> on = goesOn(level);
        Map<Integer, int[]> left = crossings(level);
        Set<Integer> begun = new TreeSet<>(left.keySet());
        on.values().forEach(c -> begun.remove(code(c)));
        Map<Integer, List<int[]>> byLeast = new TreeMap<>();
        while (!left.isEmpty()) {
            int from = begun.isEmpty() ? left.keySet().iterator().next() : begun.iterator().next();
            begun.remove(from);
            List<int[]> contour = new ArrayList<>();
            int least = 256;
            int[] at = left.get(from);
            while (at != null && left.remove(code(at)) != null) {
                contour.add(at);
                least = Math.min(least, code(at));
                at = on.get(code(at));
            }
            byLeast.put(least, contour);
        }
        return new ArrayList<>(byLeast.values());
    }

    private List<int[]> contourOf(int level, int k) {
        List<List<int[]>> all = contoursOf(level);
        if (k < 0 || k >= all.size()) {
            throw new IndexOutOfBoundsException();
        }
        return all.get(k);
    }

    private int[] crossingOf(int level, int k, int j) {
        List<int[]> contour = contourOf(level, k);
        if (j < 0 || j >= contour.size()) {
            throw new IndexOutOfBoundsException();
        }
        return contour.get(j);
    }

    /** Any of the spots with the least x will do, so all must tell the same; and the ring must run clockwise. */
    private boolean isHollow(int level, List<int[]> ring) {
        Set<Boolean> found = new HashSet<>();
        int least = ring.stream().mapToInt(c -> Math.min(spots.get(c[0])[0], spots.get(c[1])[0])).min().getAsInt();
        double area = 0;
        for (int j = 0; j < ring.size(); j++) {
            int[] crossing = ring.get(j);
            for (int s : crossing) {
                if (spots.get(s)[0] == least) {
                    found.add(isHigh(level, s));
                }
            }
            double[] p = exactPlace(level, crossing);
            double[] q = exactPlace(level, ring.get((j + 1) % ring.size()));
            area += p[0] * q[1] - p[1] * q[0];
        }
        if (found.size() != 1 || found.contains(true) != area < 0) {
            throw new AssertionError("no one can tell whether it is a hollow");
        }
        return found.contains(true);
    }

    private double[] exactPlace(int level, int[] crossing) {
        int[] h = spots.get(crossing[0]);
        int[] w = spots.get(crossing[1]);
        double part = (level + 0.5 - w[2]) / (h[2] - w[2]);
        return new double[] {w[0] + (h[0] - w[0]) * part, w[1] + (h[1] - w[1]) * part};
    }

    private int[] placeOf(int level, int[] crossing) {
        int[] h = spots.get(crossing[0]);
        int[] w = spots.get(crossing[1]);
        int[] place = new int[2];
        for (int i = 0; i < 2; i++) {
            int below = 2 * (h[2] - w[2]);
            int above = w[i] * below + (h[i] - w[i]) * (2 * level + 1 - 2 * w[2]);
            place[i] = above / below;
        }
        return place;
    }

    private boolean isFree(int[] place, List<int[]> others) {
        Set<Integer> covered = covered(place[0], place[1]);
        for (int[] s : spots) {
            if (covered.contains(1000 * s[0] + s[1])) {
                return false;
            }
        }
        for (int[] l : others) {
            if (!Collections.disjoint(covered, covered(l[1], l[2]))) {
                return false;
            }
        }
        return true;
    }

    private static Set<Integer> covered(int x, int y) {
        Set<Integer> places = new HashSet<>();
        for (int i = x - 3; i <= x + 3; i++) {
            for (int j = y - 1; j <= y + 1; j++) {
                places.add(1000 * i + j);
            }
        }
        return places;
    }
}
