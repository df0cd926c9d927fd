/** Promise 7, and what the terms say of the height at a place: at. */
public final class HeightTest {
    private static final Check CHECK = new Check();

    public static void main(String[] args) {
        CHECK.sentence("is that on the plane through its three spots", HeightTest::inATriangle);
        CHECK.sentence("(its edges belong to it)", HeightTest::edgesBelong);
        CHECK.sentence("rounded down", HeightTest::roundedDown);
        CHECK.sentence("The height at a place (any ints).", HeightTest::anyInts);
        CHECK.sentence("NoSuchElementException when it is in no triangle.", HeightTest::withoutTriangles);
        CHECK.sentence("NoSuchElementException when it is in no triangle.", HeightTest::besideTriangles);
        CHECK.finish();
    }

    private static void inATriangle() {
        SpotContours map = Maps.of(0, 0, 10, 20, 0, 20, 40, 0, 30, 20, 20, 100);
        CHECK.answers(35, "inside", () -> map.at(10, 5));
        CHECK.answers(45, "inside, on the other side", () -> map.at(30, 5));
        SpotContours right = Maps.of(0, 0, 0, 0, 60, 600, 60, 0, 60);
        CHECK.answers(220, "in a triangle that turns right", () -> right.at(20, 20));
        SpotContours wide = Maps.of(0, 0, 999, 63, 0, 999, 0, 63, 999, 63, 63, 999);
        CHECK.answers(999, "level ground", () -> wide.at(31, 17));
        SpotContours flat = Maps.of(0, 0, 0, 63, 0, 0, 0, 63, 0, 63, 63, 0);
        CHECK.answers(0, "level ground", () -> flat.at(31, 17));
        flat.raise(1, 100);
        CHECK.answers(98, "near the raised one", () -> flat.at(62, 0));
        flat.spot(31, 17, 7);
        CHECK.answers(7, "at the new spot", () -> flat.at(31, 17));
    }

    private static void edgesBelong() {
        SpotContours map = Maps.of(0, 0, 10, 20, 0, 20, 40, 0, 30, 20, 20, 100);
        CHECK.answers(10, "at a spot of one triangle", () -> map.at(0, 0));
        CHECK.answers(30, "at a spot of one triangle", () -> map.at(40, 0));
        CHECK.answers(20, "at a spot of two triangles", () -> map.at(20, 0));
        CHECK.answers(100, "at a spot of two triangles", () -> map.at(20, 20));
        CHECK.answers(60, "on the edge of two triangles", () -> map.at(20, 10));
        CHECK.answers(15, "on the border below", () -> map.at(10, 0));
        CHECK.answers(55, "on the border on the left", () -> map.at(10, 10));
        CHECK.answers(65, "on the border on the right", () -> map.at(30, 10));
        CHECK.fails(Check.ELEMENT, "just beyond the left", () -> map.at(9, 10));
        CHECK.fails(Check.ELEMENT, "just beyond the right", () -> map.at(31, 10));
        CHECK.fails(Check.ELEMENT, "just beyond the top", () -> map.at(20, 21));
        CHECK.fails(Check.ELEMENT, "just beyond the bottom", () -> map.at(10, -1));
        SpotContours slim = Maps.of(0, 0, 10, 63, 62, 20, 62, 61, 30);
        CHECK.answers(10, "a corner of the slimmest triangle", () -> slim.at(0, 0));
        CHECK.answers(20, "a corner of the slimmest triangle", () -> slim.at(63, 62));
        CHECK.answers(30, "a corner of the slimmest triangle", () -> slim.at(62, 61));
        CHECK.fails(Check.ELEMENT, "beside the slimmest triangle", () -> slim.at(61, 60));
        SpotContours whole = Maps.of(0, 0, 1, 63, 0, 2, 63, 63, 3, 0, 63, 4);
        CHECK.answers(1, "a corner of the map", () -> whole.at(0, 0));
        CHECK.answers(2, "a corner of the map", () -> whole.at(63, 0));
        CHECK.answers(3, "a corner of the map", () -> whole.at(63, 63));
        CHECK.answers(4, "a corner of the map", () -> whole.at(0, 63));
    }

    private static void roundedDown() {
        SpotContours map = Maps.of(0, 0, 0, 3, 0, 1, 0, 3, 1);
        CHECK.answers(0, "a third", () -> map.at(1, 0));
        CHECK.answers(0, "two thirds", () -> map.at(1, 1));
        CHECK.answers(1, "just one", () -> map.at(1, 2));
        SpotContours down = Maps.of(0, 0, 999, 7, 0, 0, 0, 7, 500);
        CHECK.answers(856, "999 - 999 / 7", () -> down.at(1, 0));
        CHECK.answers(927, "999 - 499 / 7", () -> down.at(0, 1));
        SpotContours low = Maps.of(0, 0, 0, 63, 0, 1, 0, 63, 0);
        CHECK.answers(0, "62 / 63", () -> low.at(62, 0));
        CHECK.answers(1, "63 / 63", () -> low.at(63, 0));
        SpotContours high = Maps.of(0, 0, 999, 63, 0, 998, 0, 63, 999);
        CHECK.answers(999, "999", () -> high.at(0, 63));
        CHECK.answers(998, "999 - 1 / 63", () -> high.at(1, 0));
        CHECK.answers(998, "999 - 1 / 63", () -> high.at(1, 62));
        SpotContours steep = Maps.of(0, 0, 999, 63, 0, 999, 0, 63, 0);
        CHECK.answers(206, "999 * 13 / 63", () -> steep.at(10, 50));
    }

    /** Places so far off that sums in ints would come round to places in the triangle. */
    private static void anyInts() {
        SpotContours map = Maps.of(0, 0, 5, 32, 0, 5, 0, 32, 5);
        CHECK.answers(5, "in the triangle", () -> map.at(5, 6));
        for (int shift = 6; shift < 32; shift++) {
            int far = 1 << shift;
            CHECK.fails(Check.ELEMENT, "at 5 + " + far + " 6", () -> map.at(5 + far, 6));
            CHECK.fails(Check.ELEMENT, "at 5 6 + " + far, () -> map.at(5, 6 + far));
            CHECK.fails(Check.ELEMENT, "at both + " + far, () -> map.at(5 + far, 6 + far));
            CHECK.fails(Check.ELEMENT, "at 5 - " + far + " 6", () -> map.at(5 - far, 6));
            CHECK.fails(Check.ELEMENT, "at 5 6 - " + far, () -> map.at(5, 6 - far));
            CHECK.fails(Check.ELEMENT, "at + and - " + far, () -> map.at(5 + far, 6 - far));
        }
        int[] ends = {Integer.MIN_VALUE, Integer.MIN_VALUE + 1, -46341, -1, 64, 46341, Integer.MAX_VALUE};
        for (int x : ends) {
            CHECK.fails(Check.ELEMENT, "at " + x + " 6", () -> map.at(x, 6));
            CHECK.fails(Check.ELEMENT, "at 5 " + x, () -> map.at(5, x));
            for (int y : ends) {
                CHECK.fails(Check.ELEMENT, "at " + x + " " + y, () -> map.at(x, y));
            }
        }
    }

    private static void withoutTriangles() {
        CHECK.fails(Check.ELEMENT, "no spot", () -> new SpotContours().at(0, 0));
        CHECK.fails(Check.ELEMENT, "at the only spot", () -> Maps.of(4, 4, 9).at(4, 4));
        CHECK.fails(Check.ELEMENT, "at one of two spots", () -> Maps.of(4, 4, 9, 8, 8, 9).at(8, 8));
        CHECK.fails(Check.ELEMENT, "between two spots", () -> Maps.of(4, 4, 9, 8, 8, 9).at(6, 6));
        CHECK.fails(Check.ELEMENT, "at a spot of 16 in a line", () -> Maps.line(16).at(4, 2));
        CHECK.fails(Check.ELEMENT, "between spots in a line", () -> Maps.line(16).at(6, 3));
    }

    private static void besideTriangles() {
        SpotContours map = Maps.of(10, 10, 5, 20, 10, 5, 10, 20, 5);
        CHECK.answers(5, "just at the border", () -> map.at(15, 15));
        CHECK.fails(Check.ELEMENT, "beside the border", () -> map.at(16, 15));
        CHECK.fails(Check.ELEMENT, "beside the border", () -> map.at(15, 16));
        CHECK.fails(Check.ELEMENT, "beside a corner", () -> map.at(9, 10));
        CHECK.fails(Check.ELEMENT, "beside a corner", () -> map.at(10, 9));
        CHECK.fails(Check.ELEMENT, "in a line with the border", () -> map.at(21, 10));
        CHECK.fails(Check.ELEMENT, "in a line with the border", () -> map.at(10, 21));
        CHECK.fails(Check.ELEMENT, "in a line with the border", () -> map.at(9, 21));
        CHECK.fails(Check.ELEMENT, "on the map, but far", () -> map.at(63, 63));
        CHECK.fails(Check.ELEMENT, "beside 27 triangles", () -> Maps.mostTriangles().at(0, 63));
    }
}
