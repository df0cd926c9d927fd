/** Promises 12 to 15, and what the terms say of labels: label, labels, labelOf, wipe. */
public final class LabelTest {
    private static final Check CHECK = new Check();

    public static void main(String[] args) {
        CHECK.sentence("LABELS are at most 20", LabelTest::twentyLabels);
        CHECK.sentence("it covers the places from x - 3 to x + 3", LabelTest::coversToTheSides);
        CHECK.sentence("and y - 1 to y + 1", LabelTest::coversUpAndDown);
        CHECK.sentence("(also beyond 0 .. 63)", LabelTest::coversBeyondTheMap);
        CHECK.sentence("It CLASHES with a spot that it covers", LabelTest::coversSpotsAtItsCorners);
        CHECK.sentence("and with another label that covers a place that it covers", LabelTest::labelsSideBySide);
        CHECK.sentence("and with another label that covers a place that it covers", LabelTest::labelsCornerByCorner);
        CHECK.sentence("For each contour of a level in turn, a label comes", LabelTest::contoursInTurn);
        CHECK.sentence("at the first of its crossings where it clashes with nothing", LabelTest::firstFreeCrossing);
        CHECK.sentence("(labels there already, of whatever level", LabelTest::labelsThereAlready);
        CHECK.sentence("and of this call, too)", LabelTest::labelsOfTheSameCall);
        CHECK.sentence("if there is one: how many came", LabelTest::noFreeCrossing);
        CHECK.sentence("(label) IllegalArgumentException when it is no level", LabelTest::labelOfNoLevel);
        CHECK.sentence("IllegalStateException when there would be more than 20", LabelTest::moreThanTwenty);
        CHECK.sentence("(then none comes)", LabelTest::thenNoneComes);
        CHECK.sentence("How many labels there are.", LabelTest::counted);
        CHECK.sentence("Of label i: its level (what = 0), x (1), y (2).", LabelTest::levelAndPlace);
        CHECK.sentence("(labelOf) IndexOutOfBoundsException when there is none such", LabelTest::noLabel);
        CHECK.sentence("(labelOf) IllegalArgumentException for another what.", LabelTest::anotherWhat);
        CHECK.sentence("All labels go: how many there were.", LabelTest::wipes);
        CHECK.finish();
    }

    /** What labels a map has when that of a level alone has come. */
    private static void labelAlone(SpotContours map, int level, String due, String what) {
        map.wipe();
        map.label(level);
        CHECK.same(due, what, Maps.labels(map));
    }

    /** Where the label of a level comes when that of 499 is there. */
    private static void secondLabel(SpotContours map, int level, String due, String what) {
        map.wipe();
        map.label(499);
        map.label(level);
        CHECK.same(level + "@" + due, what, Maps.labels(map).split(" ")[1]);
    }

    private static void twentyLabels() {
        SpotContours map = Maps.nineteenLabels();
        CHECK.answers(19, "labels", map::labels);
        CHECK.answers(1, "the 20th", () -> map.label(775));
        CHECK.answers(20, "labels", map::labels);
        CHECK.answers(775, "the 20th", () -> map.labelOf(19, 0));
        CHECK.fails(Check.STATE, "a 21st", () -> map.label(765));
        CHECK.answers(20, "labels", map::labels);
    }

    /** A high spot at 0, 0; crossings are at x, 0 and then at 0, x, with x from 62 to 0 as the level rises. */
    private static SpotContours corner() {
        return Maps.of(0, 0, 999, 63, 0, 0, 0, 63, 0);
    }

    private static void coversToTheSides() {
        SpotContours map = corner();
        labelAlone(map, 920, "920@4,0", "a spot at x - 4");
        labelAlone(map, 936, "936@0,3", "a spot at x - 3");
        labelAlone(map, 60, "60@59,0", "a spot at x + 4");
        labelAlone(map, 40, "40@0,60", "a spot at x + 3");
    }

    private static void coversUpAndDown() {
        SpotContours map = corner();
        labelAlone(map, 960, "960@0,2", "a spot at y - 2");
        CHECK.answers(64, "the first crossing is at 1, 0", () -> map.place(970, 0, 0));
        CHECK.answers(1, "the second is at 0, 1", () -> map.place(970, 0, 1));
        labelAlone(map, 970, "", "a spot at y - 1");
        labelAlone(map, 20, "20@0,61", "a spot at y + 2");
        CHECK.answers(64 * 62, "the first crossing is at 62, 0", () -> map.place(10, 0, 0));
        CHECK.answers(62, "the second is at 0, 62", () -> map.place(10, 0, 1));
        labelAlone(map, 10, "", "a spot at y + 1");
    }

    private static void coversBeyondTheMap() {
        labelAlone(corner(), 936, "936@0,3", "beyond the left");
        labelAlone(corner(), 920, "920@4,0", "beyond the bottom");
        SpotContours far = Maps.of(63, 63, 999, 0, 63, 0, 63, 0, 0);
        labelAlone(far, 920, "920@58,63", "beyond the top");
        labelAlone(far, 960, "960@63,60", "beyond the right");
        SpotContours side = Maps.of(0, 0, 0, 63, 0, 999, 0, 63, 0, 63, 63, 999);
        labelAlone(side, 499, "499@31,63", "beyond the top");
    }

    /** The first crossing is on the side between 0 and 1; the spot 2 is just above that, or just below. */
    private static void coversSpotsAtItsCorners() {
        SpotContours above = Maps.of(0, 20, 999, 60, 20, 0, 30, 21, 0, 30, 63, 0);
        labelAlone(above, 557, "557@26,20", "x + 4, y + 1");
        labelAlone(above, 540, "540@13,20", "x + 3, y + 1");
        labelAlone(above, 440, "440@16,20", "x - 3, y + 1");
        labelAlone(above, 424, "424@34,20", "x - 4, y + 1");
        SpotContours below = Maps.of(0, 40, 0, 60, 40, 999, 30, 39, 0, 30, 0, 0);
        labelAlone(below, 440, "440@26,40", "x + 4, y - 1");
        labelAlone(below, 455, "455@43,39", "x + 3, y - 1");
        labelAlone(below, 557, "557@46,39", "x - 3, y - 1");
        labelAlone(below, 575, "575@34,40", "x - 4, y - 1");
        SpotContours farAbove = Maps.of(0, 20, 999, 60, 20, 0, 30, 22, 0, 30, 63, 0);
        labelAlone(farAbove, 540, "540@27,20", "x + 3, y + 2");
        SpotContours farBelow = Maps.of(0, 40, 0, 60, 40, 999, 30, 38, 0, 30, 0, 0);
        labelAlone(farBelow, 455, "455@27,40", "x + 3, y - 2");
    }

    private static void labelsSideBySide() {
        SpotContours map = Maps.of(0, 0, 0, 63, 0, 999, 0, 63, 0, 63, 63, 999);
        secondLabel(map, 594, "37,25", "6 to the right clashes");
        secondLabel(map, 604, "38,63", "7 to the right does not");
        secondLabel(map, 396, "25,37", "6 to the left clashes");
        secondLabel(map, 381, "24,63", "7 to the left does not");
        SpotContours turned = Maps.of(0, 0, 0, 0, 63, 999, 63, 0, 0, 63, 63, 999);
        secondLabel(turned, 523, "29,33", "2 up clashes");
        secondLabel(turned, 539, "0,34", "3 up does not");
        secondLabel(turned, 460, "33,29", "2 down clashes");
        secondLabel(turned, 444, "0,28", "3 down does not");
    }

    private static void labelsCornerByCorner() {
        SpotContours rising = Maps.of(0, 0, 999, 63, 21, 0, 0, 63, 0);
        secondLabel(rising, 396, "0,37", "6 to the right and 2 up clashes");
        secondLabel(rising, 381, "38,12", "7 to the right and 2 up does not");
        secondLabel(rising, 587, "0,25", "6 to the left and 2 down clashes");
        secondLabel(rising, 603, "24,8", "7 to the left and 2 down does not");
        SpotContours falling = Maps.of(0, 21, 999, 63, 0, 0, 0, 63, 0);
        secondLabel(falling, 396, "0,46", "6 to the right and 2 down clashes");
        secondLabel(falling, 381, "38,8", "7 to the right and 2 down does not");
        SpotContours steeper = Maps.of(0, 0, 999, 62, 31, 0, 0, 63, 0);
        secondLabel(steeper, 394, "37,18", "6 to the right and 3 up does not");
    }

    private static void contoursInTurn() {
        SpotContours two = Maps.of(60, 0, 9, 0, 0, 9, 20, 0, 0, 0, 20, 9, 20, 20, 0, 40, 0, 0, 40, 20, 0, 60, 20, 9);
        CHECK.answers(2, "two contours", () -> two.label(4));
        CHECK.same("4@50,20 4@10,0", "labels", Maps.labels(two));
        SpotContours grid = Maps.grid(0, 600, 200, 800, 400);
        CHECK.answers(4, "four contours", () -> grid.label(100));
        CHECK.answers(4, "labels", grid::labels);
        CHECK.answers(0, "a level without contours", () -> grid.label(900));
        CHECK.answers(4, "labels", grid::labels);
        CHECK.answers(0, "no spots", () -> new SpotContours().label(0));
        CHECK.answers(0, "no triangles", () -> Maps.line(16, 0, 9).label(4));
    }

    private static void firstFreeCrossing() {
        SpotContours map = Maps.of(0, 0, 10, 20, 0, 20, 40, 0, 30, 20, 20, 100);
        CHECK.answers(1, "label", () -> map.label(25));
        CHECK.same("25@3,3", "at the first crossing", Maps.labels(map));
        labelAlone(corner(), 936, "936@0,3", "at the second, the first is at a spot");
        labelAlone(Maps.hill(), 40, "40@14,14", "at the first of a ring");
    }

    private static void labelsThereAlready() {
        SpotContours map = Maps.of(0, 0, 0, 63, 0, 999, 0, 63, 0, 63, 63, 999);
        CHECK.answers(1, "a level", () -> map.label(499));
        CHECK.answers(1, "the same once more", () -> map.label(499));
        CHECK.same("499@31,63 499@31,31", "at the next crossing", Maps.labels(map));
        CHECK.answers(1, "a level near it", () -> map.label(500));
        CHECK.same("499@31,63 499@31,31 500@31,0", "at the last crossing", Maps.labels(map));
        CHECK.answers(0, "no crossing is left", () -> map.label(501));
        CHECK.answers(0, "no crossing is left", () -> map.label(499));
        CHECK.answers(3, "labels", map::labels);
    }

    /** Two contours; what other crossings they have is at spots. */
    private static void labelsOfTheSameCall() {
        SpotContours map = Maps.of(0, 30, 0, 20, 32, 9, 20, 28, 9, 20, 30, 0, 25, 30, 0);
        CHECK.same("3: 0-1 1-3 1-4; 3: 2-4 2-3 0-2", "contours", Maps.contours(map, 4));
        CHECK.answers(1, "the second one's clashes with the first one's", () -> map.label(4));
        CHECK.same("4@10,31", "labels", Maps.labels(map));
        map.raise(1, 0);
        CHECK.answers(1, "the second one alone", () -> map.label(4));
        CHECK.same("4@10,29", "labels", Maps.labels(map));
    }

    private static void noFreeCrossing() {
        SpotContours near = Maps.of(0, 0, 0, 3, 0, 9, 0, 1, 9);
        CHECK.answers(1, "a contour", () -> near.contours(4));
        CHECK.answers(0, "both crossings are at spots", () -> near.label(4));
        CHECK.answers(0, "labels", near::labels);
        SpotContours two = Maps.of(0, 0, 9, 2, 0, 0, 0, 2, 0, 60, 60, 9);
        CHECK.answers(2, "two contours", () -> two.contours(4));
        CHECK.answers(1, "the first one has no label, the second one has", () -> two.label(4));
        CHECK.same("4@30,31", "labels", Maps.labels(two));
        CHECK.answers(0, "both of the second one's are near the label", () -> two.label(4));
        CHECK.answers(1, "labels", two::labels);
    }

    private static void labelOfNoLevel() {
        SpotContours map = Maps.hill();
        map.label(40);
        for (int level : new int[] {-1, 999, 1000, 65536, Integer.MIN_VALUE, Integer.MAX_VALUE}) {
            CHECK.fails(Check.ARGUMENT, "level " + level, () -> map.label(level));
            CHECK.fails(Check.ARGUMENT, "level " + level + ", no spots", () -> new SpotContours().label(level));
        }
        CHECK.same("40@14,14", "labels", Maps.labels(map));
        CHECK.fails(Check.ARGUMENT, "there are 20 already", () -> Maps.twentyLabels().label(999));
    }

    private static void moreThanTwenty() {
        SpotContours map = Maps.nineteenLabels();
        CHECK.fails(Check.STATE, "several more than 19", () -> map.label(300));
        CHECK.answers(1, "one more than 19", () -> map.label(775));
        CHECK.fails(Check.STATE, "one more than 20", () -> map.label(765));
        CHECK.fails(Check.STATE, "several more than 20", () -> map.label(500));
        CHECK.answers(0, "contours, but no free crossing", () -> map.label(25));
        CHECK.answers(0, "no contour", () -> map.label(990));
    }

    private static void thenNoneComes() {
        SpotContours map = Maps.nineteenLabels();
        String before = Maps.labels(map);
        CHECK.fails(Check.STATE, "several more than 19", () -> map.label(300));
        CHECK.same(before, "not even the 20th", Maps.labels(map));
        CHECK.fails(Check.INDEX, "not even the 20th", () -> map.labelOf(19, 0));
        CHECK.fails(Check.STATE, "several more than 19", () -> map.label(500));
        CHECK.same(before, "not even the 20th", Maps.labels(map));
        CHECK.answers(1, "just 20", () -> map.label(775));
        String full = Maps.labels(map);
        CHECK.fails(Check.STATE, "one more than 20", () -> map.label(765));
        CHECK.same(full, "labels", Maps.labels(map));
    }

    private static void counted() {
        SpotContours map = Maps.hill();
        CHECK.answers(0, "before", map::labels);
        map.label(40);
        CHECK.answers(1, "one", map::labels);
        map.label(40);
        CHECK.answers(2, "two", map::labels);
        CHECK.answers(20, "20", () -> Maps.twentyLabels().labels());
    }

    private static void levelAndPlace() {
        SpotContours map = Maps.hill();
        map.label(40);
        map.label(50);
        CHECK.answers(40, "the level of the first", () -> map.labelOf(0, 0));
        CHECK.answers(14, "its x", () -> map.labelOf(0, 1));
        CHECK.answers(14, "its y", () -> map.labelOf(0, 2));
        CHECK.answers(50, "the level of the second", () -> map.labelOf(1, 0));
        CHECK.answers(24, "its x", () -> map.labelOf(1, 1));
        CHECK.answers(15, "its y", () -> map.labelOf(1, 2));
        labelAlone(Maps.of(0, 0, 0, 60, 0, 1, 0, 60, 1), 0, "0@0,30", "the least level");
        labelAlone(Maps.of(0, 0, 998, 60, 0, 999, 0, 60, 999), 998, "998@0,30", "the greatest level");
    }

    private static void noLabel() {
        SpotContours map = Maps.hill();
        CHECK.fails(Check.INDEX, "before", () -> map.labelOf(0, 0));
        map.label(40);
        for (int i : new int[] {-1, 1, 19, 20, 256, Integer.MIN_VALUE, Integer.MAX_VALUE}) {
            CHECK.fails(Check.INDEX, "label " + i, () -> map.labelOf(i, 0));
            CHECK.fails(Check.INDEX, "label " + i + ", what 2", () -> map.labelOf(i, 2));
            CHECK.fails(Check.INDEX, "label " + i + ", what 3", () -> map.labelOf(i, 3));
        }
        CHECK.fails(Check.INDEX, "label 20 of 20", () -> Maps.twentyLabels().labelOf(20, 0));
        map.wipe();
        CHECK.fails(Check.INDEX, "when it has gone", () -> map.labelOf(0, 0));
    }

    private static void anotherWhat() {
        SpotContours map = Maps.hill();
        map.label(40);
        for (int what : new int[] {-1, 3, 4, 256, Integer.MIN_VALUE, Integer.MAX_VALUE}) {
            CHECK.fails(Check.ARGUMENT, "what " + what, () -> map.labelOf(0, what));
        }
    }

    private static void wipes() {
        SpotContours map = Maps.hill();
        CHECK.answers(0, "none", map::wipe);
        map.label(40);
        map.label(40);
        CHECK.answers(2, "two", map::wipe);
        CHECK.answers(0, "labels", map::labels);
        CHECK.answers(0, "once more", map::wipe);
        CHECK.answers(1, "a label", () -> map.label(40));
        CHECK.same("40@14,14", "at the first crossing again", Maps.labels(map));
        CHECK.answers(1, "the spots stay", () -> map.contours(40));
        SpotContours full = Maps.twentyLabels();
        CHECK.answers(20, "20", full::wipe);
        CHECK.answers(0, "labels", full::labels);
        CHECK.answers(4, "there is room again", () -> full.label(100));
        CHECK.answers(100, "the first", () -> full.labelOf(0, 0));
        CHECK.answers(0, "no spots", () -> new SpotContours().wipe());
    }
}
