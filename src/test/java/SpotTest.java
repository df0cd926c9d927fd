/** Promises 1 to 3, and what the terms say of spots: a new object, spot, raise. */
public final class SpotTest {
    private static final Check CHECK = new Check();
    private static final int[] NO_COORDINATES = {-1, 64, -64, 127, 128, 256, 65536, 1 << 26, Integer.MIN_VALUE,
        Integer.MAX_VALUE};
    private static final int[] NO_HEIGHTS = {-1, 1000, -999, 1024, 65536, Integer.MIN_VALUE, Integer.MAX_VALUE};

    public static void main(String[] args) {
        CHECK.sentence("No spots, no labels.", SpotTest::newObject);
        CHECK.sentence("No spots, no labels.", SpotTest::objectsAreApart);
        CHECK.sentence("SPOTS are numbered 0, 1, .. as they come", SpotTest::numbered);
        CHECK.sentence("at most 16", SpotTest::sixteenSpots);
        CHECK.sentence("each at an x and a y from 0 to 63", SpotTest::coordinates);
        CHECK.sentence("no two at the same ones", SpotTest::samePlace);
        CHECK.sentence("with a HEIGHT 0 .. 999", SpotTest::heights);
        CHECK.sentence("A spot comes: its number.", SpotTest::refusedSpotsTakeNoNumber);
        CHECK.sentence("IllegalArgumentException when x, y or height is not as said", SpotTest::wrongSpots);
        CHECK.sentence("or there is a spot already", SpotTest::spotAlready);
        CHECK.sentence("IllegalStateException, behind that, when there are 16.", SpotTest::seventeenthSpot);
        CHECK.sentence("A spot gets another height", SpotTest::anotherHeight);
        CHECK.sentence("(or the one it has; labels go in any case): what it was", SpotTest::sameHeight);
        CHECK.sentence("IndexOutOfBoundsException when there is no such spot;", SpotTest::raiseOfNoSpot);
        CHECK.sentence("IllegalArgumentException when it is no height.", SpotTest::raiseToNoHeight);
        CHECK.sentence("When a spot comes, or raise() gives a height", SpotTest::labelsGo);
        CHECK.sentence("(also the one that was there)", SpotTest::labelsGoAtTheSameHeight);
        CHECK.sentence("(not when it throws)", SpotTest::labelsStayWhenItThrows);
        CHECK.finish();
    }

    private static void newObject() {
        SpotContours map = new SpotContours();
        CHECK.answers(0, "triangles", map::triangles);
        CHECK.answers(0, "labels", map::labels);
        CHECK.answers(0, "wipe", map::wipe);
        CHECK.answers(0, "contours", () -> map.contours(0));
        CHECK.answers(0, "contours of 998", () -> map.contours(998));
        CHECK.answers(0, "label", () -> map.label(0));
        CHECK.answers(0, "label of 998", () -> map.label(998));
        CHECK.fails(Check.INDEX, "raise", () -> map.raise(0, 0));
        CHECK.fails(Check.INDEX, "corner", () -> map.corner(0, 0));
        CHECK.fails(Check.INDEX, "edge", () -> map.edge(0, 0));
        CHECK.fails(Check.ELEMENT, "at", () -> map.at(0, 0));
        CHECK.fails(Check.INDEX, "contour", () -> map.contour(0, 0));
        CHECK.fails(Check.INDEX, "crossing", () -> map.crossing(0, 0, 0));
        CHECK.fails(Check.INDEX, "place", () -> map.place(0, 0, 0));
        CHECK.fails(Check.INDEX, "labelOf", () -> map.labelOf(0, 0));
    }

    private static void objectsAreApart() {
        SpotContours one = Maps.hill();
        SpotContours other = Maps.hollow();
        one.label(40);
        CHECK.answers(0, "labels of another object", other::labels);
        CHECK.answers(1004, "contour of one", () -> one.contour(40, 0));
        CHECK.answers(2004, "contour of another", () -> other.contour(40, 0));
        CHECK.answers(0, "spot of a third", () -> new SpotContours().spot(10, 10, 0));
    }

    private static void numbered() {
        SpotContours map = new SpotContours();
        for (int i = 0; i < 16; i++) {
            int x = 63 - 4 * i;
            CHECK.answers(i, "spot " + i, () -> map.spot(x, x * x % 64, x));
        }
    }

    private static void sixteenSpots() {
        SpotContours map = Maps.line(15);
        CHECK.answers(15, "the 16th", () -> map.spot(63, 0, 0));
        CHECK.answers(0, "the 16th is there", () -> map.raise(15, 1));
        CHECK.fails(Check.STATE, "the 17th", () -> map.spot(63, 1, 0));
        CHECK.fails(Check.INDEX, "the 17th is not there", () -> map.raise(16, 1));
    }

    private static void coordinates() {
        SpotContours map = new SpotContours();
        CHECK.answers(0, "x and y of 0", () -> map.spot(0, 0, 5));
        CHECK.answers(1, "x and y of 63", () -> map.spot(63, 63, 5));
        CHECK.answers(2, "x of 0", () -> map.spot(0, 63, 5));
        CHECK.answers(3, "y of 0", () -> map.spot(63, 0, 5));
        for (int wrong : NO_COORDINATES) {
            CHECK.fails(Check.ARGUMENT, "x of " + wrong, () -> map.spot(wrong, 30, 5));
            CHECK.fails(Check.ARGUMENT, "y of " + wrong, () -> map.spot(30, wrong, 5));
            CHECK.fails(Check.ARGUMENT, "x and y of " + wrong, () -> map.spot(wrong, wrong, 5));
        }
    }

    private static void samePlace() {
        SpotContours map = Maps.of(4, 5, 6, 20, 30, 40);
        CHECK.fails(Check.ARGUMENT, "the first spot's", () -> map.spot(4, 5, 6));
        CHECK.fails(Check.ARGUMENT, "the last spot's", () -> map.spot(20, 30, 40));
        CHECK.fails(Check.ARGUMENT, "another height", () -> map.spot(4, 5, 7));
        CHECK.answers(2, "the same x", () -> map.spot(4, 6, 6));
        CHECK.answers(3, "the same y", () -> map.spot(5, 5, 6));
        CHECK.answers(4, "x and y exchanged", () -> map.spot(5, 4, 6));
        CHECK.answers(5, "the x of one, the y of another", () -> map.spot(4, 30, 6));
    }

    private static void heights() {
        SpotContours map = new SpotContours();
        CHECK.answers(0, "0", () -> map.spot(0, 0, 0));
        CHECK.answers(1, "999", () -> map.spot(1, 0, 999));
        for (int wrong : NO_HEIGHTS) {
            CHECK.fails(Check.ARGUMENT, "height of " + wrong, () -> map.spot(2, 0, wrong));
        }
        CHECK.answers(0, "it has 0", () -> map.raise(0, 999));
        CHECK.answers(999, "it has 999", () -> map.raise(1, 0));
        CHECK.answers(999, "it has 999", () -> map.raise(0, 0));
        CHECK.answers(0, "it has 0", () -> map.raise(1, 0));
    }

    private static void refusedSpotsTakeNoNumber() {
        SpotContours map = new SpotContours();
        CHECK.fails(Check.ARGUMENT, "no x", () -> map.spot(-1, 0, 0));
        CHECK.answers(0, "the first", () -> map.spot(0, 0, 0));
        CHECK.fails(Check.ARGUMENT, "the same place", () -> map.spot(0, 0, 0));
        CHECK.answers(1, "the second", () -> map.spot(9, 0, 0));
        CHECK.fails(Check.ARGUMENT, "no height", () -> map.spot(0, 9, 1000));
        CHECK.answers(0, "no triangle yet", map::triangles);
        CHECK.answers(2, "where a wrong one did not come", () -> map.spot(0, 9, 0));
        CHECK.answers(1, "a triangle", map::triangles);
    }

    private static void wrongSpots() {
        SpotContours map = Maps.of(4, 5, 6);
        int[][] wrong = {{-1, 0, 0}, {64, 0, 0}, {0, -1, 0}, {0, 64, 0}, {0, 0, -1}, {0, 0, 1000}, {-1, 64, 0},
            {0, 64, 1000}, {-1, -1, -1}, {64, 5, 6}, {4, 64, 6}, {4, 5, 1000}};
        for (int[] w : wrong) {
            CHECK.fails(Check.ARGUMENT, "spot " + w[0] + " " + w[1] + " " + w[2], () -> map.spot(w[0], w[1], w[2]));
        }
        CHECK.answers(1, "none has come", () -> map.spot(0, 0, 0));
    }

    private static void spotAlready() {
        SpotContours map = Maps.grid(7);
        for (int i = 0; i < 16; i++) {
            int x = 21 * (i / 4);
            int y = 21 * (i % 4);
            CHECK.fails(Check.ARGUMENT, "the place of spot " + i, () -> map.spot(x, y, 8));
        }
        CHECK.answers(7, "its height is as before", () -> map.raise(0, 9));
        CHECK.fails(Check.ARGUMENT, "the place of a raised one", () -> map.spot(0, 0, 7));
    }

    private static void seventeenthSpot() {
        SpotContours map = Maps.grid(0, 100);
        CHECK.fails(Check.STATE, "a right one", () -> map.spot(1, 1, 1));
        CHECK.fails(Check.STATE, "once more", () -> map.spot(1, 1, 1));
        CHECK.fails(Check.STATE, "with the greatest numbers", () -> map.spot(62, 63, 999));
        CHECK.fails(Check.ARGUMENT, "where there is one", () -> map.spot(21, 42, 1));
        CHECK.fails(Check.ARGUMENT, "no x", () -> map.spot(64, 1, 1));
        CHECK.fails(Check.ARGUMENT, "no y", () -> map.spot(1, -1, 1));
        CHECK.fails(Check.ARGUMENT, "no height", () -> map.spot(1, 1, 1000));
        CHECK.fails(Check.INDEX, "none has come", () -> map.raise(16, 0));
        CHECK.answers(18, "the triangles are as before", map::triangles);
        CHECK.answers(15, "15 are no 16", () -> Maps.line(15).spot(0, 63, 0));
    }

    private static void anotherHeight() {
        SpotContours map = Maps.of(0, 0, 10, 8, 0, 20, 0, 8, 30);
        CHECK.answers(20, "raise to the greatest", () -> map.raise(1, 999));
        CHECK.answers(999, "raise to the least", () -> map.raise(1, 0));
        CHECK.answers(0, "raise", () -> map.raise(1, 7));
        CHECK.answers(7, "the height is another", () -> map.at(8, 0));
        CHECK.answers(10, "that of the first is not", () -> map.raise(0, 10));
        CHECK.answers(30, "that of the last is not", () -> map.raise(2, 30));
        CHECK.answers(1, "contours go by the new heights", () -> map.contours(8));
        CHECK.answers(1, "the triangles stay", map::triangles);
        SpotContours full = Maps.grid(5);
        CHECK.answers(5, "the 16th spot", () -> full.raise(15, 6));
        CHECK.answers(6, "the 16th spot", () -> full.at(63, 63));
    }

    private static void sameHeight() {
        SpotContours map = Maps.hill();
        map.label(40);
        CHECK.answers(90, "the same", () -> map.raise(4, 90));
        CHECK.answers(90, "once more", () -> map.raise(4, 90));
        CHECK.answers(0, "the same, 0", () -> map.raise(0, 0));
        CHECK.answers(0, "labels", map::labels);
        CHECK.answers(90, "it still has that", () -> map.at(20, 20));
    }

    private static void raiseOfNoSpot() {
        SpotContours map = Maps.of(0, 0, 10, 8, 0, 20);
        for (int wrong : new int[] {-1, 2, 15, 16, 256, Integer.MIN_VALUE, Integer.MAX_VALUE}) {
            CHECK.fails(Check.INDEX, "spot " + wrong, () -> map.raise(wrong, 0));
        }
        CHECK.fails(Check.INDEX, "neither spot nor height", () -> map.raise(2, 1000));
        CHECK.fails(Check.INDEX, "neither spot nor height", () -> map.raise(-1, -1));
        CHECK.fails(Check.INDEX, "no spots", () -> new SpotContours().raise(0, 0));
        CHECK.fails(Check.INDEX, "spot 16 of 16", () -> Maps.grid(0).raise(16, 0));
        CHECK.answers(10, "nothing has changed", () -> map.raise(0, 0));
        CHECK.answers(20, "nothing has changed", () -> map.raise(1, 0));
    }

    private static void raiseToNoHeight() {
        SpotContours map = Maps.of(0, 0, 10, 8, 0, 20);
        for (int wrong : NO_HEIGHTS) {
            CHECK.fails(Check.ARGUMENT, "height " + wrong, () -> map.raise(0, wrong));
            CHECK.fails(Check.ARGUMENT, "height " + wrong, () -> map.raise(1, wrong));
        }
        CHECK.answers(10, "nothing has changed", () -> map.raise(0, 0));
        CHECK.answers(20, "nothing has changed", () -> map.raise(1, 0));
    }

    private static void labelsGo() {
        SpotContours map = Maps.hill();
        CHECK.answers(1, "a label", () -> map.label(40));
        CHECK.answers(1, "another", () -> map.label(50));
        CHECK.answers(90, "raise", () -> map.raise(4, 91));
        CHECK.answers(0, "all labels have gone", map::labels);
        CHECK.answers(1, "a label", () -> map.label(40));
        CHECK.answers(5, "a spot", () -> map.spot(0, 63, 0));
        CHECK.answers(0, "all labels have gone", map::labels);
        CHECK.fails(Check.INDEX, "there is none", () -> map.labelOf(0, 0));
        SpotContours full = Maps.twentyLabels();
        CHECK.answers(20, "20 labels", full::labels);
        CHECK.answers(0, "raise", () -> full.raise(0, 1));
        CHECK.answers(0, "all 20 have gone", full::labels);
    }

    private static void labelsGoAtTheSameHeight() {
        SpotContours map = Maps.hill();
        CHECK.answers(1, "a label", () -> map.label(40));
        CHECK.answers(90, "raise to the same", () -> map.raise(4, 90));
        CHECK.answers(0, "labels", map::labels);
        CHECK.answers(1, "a label where the one before was", () -> map.label(40));
        CHECK.same("40@14,14", "labels", Maps.labels(map));
    }

    private static void labelsStayWhenItThrows() {
        SpotContours map = Maps.twentyLabels();
        String before = Maps.labels(map);
        CHECK.fails(Check.STATE, "a 17th spot", () -> map.spot(1, 1, 1));
        CHECK.same(before, "labels", Maps.labels(map));
        SpotContours hill = Maps.hill();
        hill.label(40);
        int[][] wrong = {{-1, 0, 0}, {64, 0, 0}, {0, -1, 0}, {0, 64, 0}, {0, 0, -1}, {0, 0, 1000}, {10, 10, 0}};
        for (int[] w : wrong) {
            CHECK.fails(Check.ARGUMENT, "a wrong spot", () -> hill.spot(w[0], w[1], w[2]));
            CHECK.same("40@14,14", "labels behind it", Maps.labels(hill));
        }
        CHECK.fails(Check.INDEX, "raise of no spot", () -> hill.raise(5, 0));
        CHECK.same("40@14,14", "labels behind it", Maps.labels(hill));
        CHECK.fails(Check.ARGUMENT, "raise to no height", () -> hill.raise(0, 1000));
        CHECK.same("40@14,14", "labels behind it", Maps.labels(hill));
        CHECK.fails(Check.ARGUMENT, "raise to no height", () -> hill.raise(0, -1));
        CHECK.same("40@14,14", "labels behind it", Maps.labels(hill));
    }
}
