/** Promises 12 to 15: label, labels, labelOf, wipe. */
public final class LabelTest {
    private static final Check CHECK = new Check();

    public static void main(String[] args) {
        oneForEachContour();
        clashesWithSpots();
        clashesWithLabels();
        atMostTwenty();
        wrongCalls();
        wipes();
        CHECK.finish();
    }

    private static void oneForEachContour() {
        SpotContours map = Maps.of(0, 0, 10, 20, 0, 20, 40, 0, 30, 20, 20, 100);
        CHECK.answers(1, "label", () -> map.label(25));
        CHECK.same("25@3,3", "at the first crossing", Maps.labels(map));
        SpotContours grid = Maps.grid(0, 600, 200, 800, 400);
        CHECK.answers(4, "label", () -> grid.label(100));
        CHECK.answers(4, "labels", grid::labels);
        CHECK.answers(0, "a level without contours", () -> grid.label(900));
        CHECK.answers(4, "labels", grid::labels);
    }

    private static void clashesWithSpots() {
        SpotContours near = Maps.of(0, 0, 0, 3, 0, 9, 0, 1, 9);
        CHECK.answers(1, "a contour", () -> near.contours(4));
        CHECK.answers(0, "both crossings are at spots", () -> near.label(4));
        CHECK.answers(0, "no label", near::labels);
        // On this map crossings go along two sides of the map, x or y falling from 62 to 0 as the level rises.
        SpotContours wide = Maps.of(0, 0, 999, 63, 0, 0, 0, 63, 0);
        labelAt(wide, 936, "0,3", "3 from the spot at 0, 0 clashes, then 3 above it does not");
        labelAt(wide, 920, "4,0", "4 from the spot at 0, 0");
        labelAt(wide, 60, "59,0", "4 from the spot at 63, 0");
        labelAt(wide, 40, "0,60", "3 from the spot at 63, 0 clashes");
        SpotContours tall = Maps.of(0, 0, 999, 0, 63, 0, 63, 0, 0);
        tall.label(960);
        CHECK.same("960@0,2", "2 above the spot at 0, 0, at the second crossing", Maps.labels(tall));
        tall.raise(0, 999);
        CHECK.answers(64 + 0, "the first crossing", () -> tall.place(970, 0, 0));
        CHECK.answers(1, "the second crossing", () -> tall.place(970, 0, 1));
        CHECK.answers(0, "1 above the spot at 0, 0 clashes", () -> tall.label(970));
    }

    private static void labelAt(SpotContours map, int level, String due, String what) {
        map.wipe();
        map.label(level);
        CHECK.same(level + "@" + due, what, Maps.labels(map));
    }

    private static void clashesWithLabels() {
        SpotContours map = Maps.of(0, 0, 0, 63, 0, 999, 0, 63, 0, 63, 63, 999);
        String first = "499@31,63";
        CHECK.answers(1, "label", () -> map.label(499));
        CHECK.same(first, "labels", Maps.labels(map));
        CHECK.answers(1, "the same level once more", () -> map.label(499));
        CHECK.same(first + " 499@31,31", "the next crossing", Maps.labels(map));
        CHECK.answers(1, "the same level once more", () -> map.label(499));
        CHECK.answers(0, "no crossing is left", () -> map.label(499));
        CHECK.same(first + " 499@31,31 499@31,0", "labels", Maps.labels(map));
        secondLabel(map, 594, "37,25", "6 to the right clashes");
        secondLabel(map, 604, "38,63", "7 to the right does not");
        secondLabel(map, 396, "25,37", "6 to the left clashes");
        secondLabel(map, 381, "24,63", "7 to the left does not");
        SpotContours turned = Maps.of(0, 0, 0, 0, 63, 999, 63, 0, 0, 63, 63, 999);
        secondLabel(turned, 523, "29,33", "2 up clashes");
        secondLabel(turned, 539, "0,34", "3 up does not");
        secondLabel(turned, 460, "33,29", "2 down clashes");
        secondLabel(turned, 444, "0,28", "3 down does not");
    }

    /** Where the label of a level comes when that of 499 is there. */
    private static void secondLabel(SpotContours map, int level, String due, String what) {
        map.wipe();
        map.label(499);
        map.label(level);
        CHECK.same(level + "@" + due, what, Maps.labels(map).split(" ")[1]);
    }

    private static void atMostTwenty() {
        SpotContours map = Maps.grid(0, 600, 200, 800, 400);
        int[] levels = {50, 100, 150, 200, 250};
        for (int level : levels) {
            map.label(level);
        }
        CHECK.answers(19, "labels", map::labels);
        String before = Maps.labels(map);
        CHECK.fails(Check.STATE, "there would be more than 20", () -> map.label(300));
        CHECK.same(before, "none comes", Maps.labels(map));
        CHECK.fails(Check.STATE, "nor the next time", () -> map.label(500));
        CHECK.same(before, "none comes", Maps.labels(map));
        CHECK.answers(1, "just 20", () -> map.label(775));
        CHECK.answers(20, "labels", map::labels);
        CHECK.answers(0, "none comes, so none is too many", () -> map.label(25));
        CHECK.answers(0, "no contour", () -> map.label(990));
        CHECK.fails(Check.STATE, "just one more", () -> map.label(765));
        CHECK.fails(Check.STATE, "several more", () -> map.label(500));
        CHECK.fails(Check.ARGUMENT, "no level", () -> map.label(999));
        CHECK.answers(20, "labels", map::labels);
        CHECK.answers(775, "the last one", () -> map.labelOf(19, 0));
    }

    private static void wrongCalls() {
        SpotContours map = Maps.hill();
        for (int level : new int[] {-1, 999, Integer.MIN_VALUE, Integer.MAX_VALUE}) {
            CHECK.fails(Check.ARGUMENT, "level " + level, () -> map.label(level));
        }
        CHECK.answers(0, "no label", map::labels);
        CHECK.fails(Check.INDEX, "no label", () -> map.labelOf(0, 0));
        map.label(40);
        CHECK.answers(40, "its level", () -> map.labelOf(0, 0));
        CHECK.answers(14, "its x", () -> map.labelOf(0, 1));
        CHECK.answers(14, "its y", () -> map.labelOf(0, 2));
        for (int i : new int[] {-1, 1, 19, 20, Integer.MIN_VALUE, Integer.MAX_VALUE}) {
            CHECK.fails(Check.INDEX, "label " + i, () -> map.labelOf(i, 0));
            CHECK.fails(Check.INDEX, "label " + i + ", what 3", () -> map.labelOf(i, 3));
        }
        for (int what : new int[] {-1, 3, Integer.MIN_VALUE, Integer.MAX_VALUE}) {
            CHECK.fails(Check.ARGUMENT, "what " + what, () -> map.labelOf(0, what));
        }
    }

    private static void wipes() {
        SpotContours map = Maps.hill();
        map.label(40);
        map.label(40);
        CHECK.answers(2, "wipe", map::wipe);
        CHECK.answers(0, "labels", map::labels);
        CHECK.fails(Check.INDEX, "no label", () -> map.labelOf(0, 0));
        CHECK.answers(0, "wipe again", map::wipe);
        CHECK.answers(1, "a label", () -> map.label(40));
        CHECK.same("40@14,14", "at the first crossing again", Maps.labels(map));
        CHECK.answers(1, "the spots stay", () -> map.contours(40));
    }
}
