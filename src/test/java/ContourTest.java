/** Promises 8 to 11: contours, contour, crossing, place. */
public final class ContourTest {
    private static final Check CHECK = new Check();

    public static void main(String[] args) {
        fromBorderToBorder();
        rings();
        levels();
        beginsAtTheBorderNotAtTheLeast();
        numberedByTheLeastCrossing();
        places();
        wrongCalls();
        CHECK.finish();
    }

    private static void fromBorderToBorder() {
        SpotContours map = Maps.of(0, 0, 10, 20, 0, 20, 40, 0, 30, 20, 20, 100);
        CHECK.same("3: 0-3 1-3 1-2", "high ground on the left", Maps.contours(map, 25));
        map.raise(3, 0);
        CHECK.same("2: 2-3 1-2", "high ground on the left", Maps.contours(map, 25));
        CHECK.same("2: 0-1 0-2", "0 is high, and 0, 1, 2 turn left", Maps.contours(Maps.of(0, 0, 9, 9, 0, 0, 0, 9, 0), 4));
        CHECK.same("2: 0-2 0-1", "0 is low, and 0, 1, 2 turn left", Maps.contours(Maps.of(0, 0, 0, 9, 0, 9, 0, 9, 9), 4));
        CHECK.same("2: 0-2 0-1", "0 is high, and 0, 1, 2 turn right", Maps.contours(Maps.of(0, 0, 9, 0, 9, 0, 9, 0, 0), 4));
        CHECK.same("", "without triangles", Maps.contours(Maps.of(0, 0, 0, 9, 0, 9, 18, 0, 0), 4));
    }

    private static void rings() {
        CHECK.same("1004: 0-4 1-4 2-4 3-4", "a hill", Maps.contours(Maps.hill(), 40));
        CHECK.same("2004: 0-4 3-4 2-4 1-4", "a hollow", Maps.contours(Maps.hollow(), 40));
        SpotContours mixed = Maps.of(20, 20, 9, 30, 30, 0, 10, 10, 0, 30, 10, 0, 10, 30, 0);
        CHECK.same("1004: 0-1 0-4 0-2 0-3", "begins with the least", Maps.contours(mixed, 4));
        SpotContours three = Maps.of(0, 0, 0, 60, 0, 0, 0, 60, 0, 10, 10, 5);
        CHECK.same("1003: 0-3 1-3 2-3", "a ring of three", Maps.contours(three, 2));
        SpotContours both = Maps.of(0, 0, 50, 60, 0, 50, 60, 60, 50, 0, 60, 50, 30, 20, 0, 30, 40, 99);
        CHECK.answers(1, "level of the hollow", () -> both.contours(20));
        CHECK.answers(2, "a hollow", () -> both.contour(20, 0) / 1000);
        CHECK.answers(1, "level of the hill", () -> both.contours(70));
        CHECK.answers(1, "a hill", () -> both.contour(70, 0) / 1000);
    }

    private static void levels() {
        SpotContours map = Maps.of(0, 0, 0, 9, 0, 999, 0, 9, 500);
        CHECK.answers(1, "level 0", () -> map.contours(0));
        CHECK.answers(1, "level 998", () -> map.contours(998));
        CHECK.same("2: 0-2 0-1", "499 is below 500", Maps.contours(map, 499));
        CHECK.same("2: 1-2 0-1", "500 at level 500 is low", Maps.contours(map, 500));
        SpotContours flat = Maps.of(0, 0, 7, 9, 0, 7, 0, 9, 7);
        CHECK.answers(0, "all low", () -> flat.contours(7));
        CHECK.answers(0, "all high", () -> flat.contours(6));
        CHECK.fails(Check.ARGUMENT, "level -1", () -> map.contours(-1));
        CHECK.fails(Check.ARGUMENT, "level 999", () -> map.contours(999));
        CHECK.fails(Check.ARGUMENT, "level 999, no spots", () -> new SpotContours().contours(999));
        CHECK.fails(Check.ARGUMENT, "the least int", () -> map.contours(Integer.MIN_VALUE));
    }

    private static void beginsAtTheBorderNotAtTheLeast() {
        SpotContours line = Maps.of(30, 30, 9, 30, 40, 0, 0, 30, 9, 63, 30, 9, 0, 41, 0, 63, 41, 0);
        CHECK.same("5: 3-5 1-3 0-1 1-2 2-4", "the least is in the middle", Maps.contours(line, 4));
    }

    private static void numberedByTheLeastCrossing() {
        SpotContours map = Maps.grid(0, 600, 200, 800, 400);
        for (int level = 0; level < 999; level += 7) {
            int last = -1;
            for (int k = 0; k < map.contours(level); k++) {
                int least = 256;
                for (int j = 0; j < map.contour(level, k) % 1000; j++) {
                    least = Math.min(least, map.crossing(level, k, j));
                }
                CHECK.holds("level " + level + ", contour " + k + " is behind that before it", least > last);
                last = least;
            }
        }
        SpotContours two = Maps.of(30, 30, 9, 30, 40, 0, 0, 30, 9, 63, 30, 9, 0, 41, 0, 63, 41, 0, 31, 0, 0);
        CHECK.same("5: 3-5 1-3 0-1 1-2 2-4; 3: 2-6 0-6 3-6", "not by the crossing that it begins with",
                Maps.contours(two, 4));
    }

    private static void places() {
        SpotContours map = Maps.hill();
        CHECK.answers(64 * 14 + 14, "place", () -> map.place(40, 0, 0));
        CHECK.answers(64 * 25 + 14, "rounded down where x falls from low to high", () -> map.place(40, 0, 1));
        CHECK.answers(64 * 25 + 25, "rounded down where both fall", () -> map.place(40, 0, 2));
        CHECK.answers(64 * 14 + 25, "rounded down where y falls", () -> map.place(40, 0, 3));
        SpotContours steep = Maps.of(0, 0, 0, 63, 0, 999, 0, 63, 999);
        CHECK.answers(0, "just above the low end", () -> steep.place(0, 0, 0));
        CHECK.answers(62, "just below the high end", () -> steep.place(998, 0, 0));
        CHECK.answers(64 * 62, "just below the high end", () -> steep.place(998, 0, 1));
        SpotContours fall = Maps.of(0, 0, 999, 63, 0, 0, 0, 63, 0);
        CHECK.answers(64 * 62, "just above the low end", () -> fall.place(0, 0, 0));
        CHECK.answers(62, "just above the low end", () -> fall.place(0, 0, 1));
        CHECK.answers(0, "just below the high end", () -> fall.place(998, 0, 0));
        SpotContours step = Maps.of(0, 0, 4, 10, 0, 5, 0, 10, 5);
        CHECK.answers(5, "in the middle of a step of one", () -> step.place(4, 0, 0));
        CHECK.answers(64 * 5, "in the middle of a step of one", () -> step.place(4, 0, 1));
    }

    private static void wrongCalls() {
        SpotContours map = Maps.hill();
        for (int k : new int[] {-1, 1, 2, Integer.MIN_VALUE, Integer.MAX_VALUE}) {
            CHECK.fails(Check.INDEX, "contour " + k, () -> map.contour(40, k));
            CHECK.fails(Check.INDEX, "crossing of contour " + k, () -> map.crossing(40, k, 0));
            CHECK.fails(Check.INDEX, "place of contour " + k, () -> map.place(40, k, 0));
        }
        for (int j : new int[] {-1, 4, Integer.MIN_VALUE, Integer.MAX_VALUE}) {
            CHECK.fails(Check.INDEX, "crossing " + j, () -> map.crossing(40, 0, j));
            CHECK.fails(Check.INDEX, "place " + j, () -> map.place(40, 0, j));
        }
        for (int level : new int[] {-1, 999, Integer.MIN_VALUE, Integer.MAX_VALUE}) {
            CHECK.fails(Check.ARGUMENT, "contour of level " + level, () -> map.contour(level, 0));
            CHECK.fails(Check.ARGUMENT, "contour -1 of level " + level, () -> map.contour(level, -1));
            CHECK.fails(Check.ARGUMENT, "crossing of level " + level, () -> map.crossing(level, 0, 0));
            CHECK.fails(Check.ARGUMENT, "crossing -1 of level " + level, () -> map.crossing(level, -1, -1));
            CHECK.fails(Check.ARGUMENT, "place of level " + level, () -> map.place(level, 0, 0));
            CHECK.fails(Check.ARGUMENT, "place 9 of level " + level, () -> map.place(level, 9, 9));
        }
        CHECK.fails(Check.INDEX, "contour of a level without one", () -> map.contour(90, 0));
    }
}
