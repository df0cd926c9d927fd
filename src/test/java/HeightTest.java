/** Promise 7: at. */
public final class HeightTest {
    private static final Check CHECK = new Check();

    public static void main(String[] args) {
        inATriangle();
        roundedDown();
        inNoTriangle();
        afterRaise();
        CHECK.finish();
    }

    private static void inATriangle() {
        SpotContours map = Maps.of(0, 0, 10, 20, 0, 20, 40, 0, 30, 20, 20, 100);
        CHECK.answers(10, "at a spot", () -> map.at(0, 0));
        CHECK.answers(20, "at a spot of two triangles", () -> map.at(20, 0));
        CHECK.answers(100, "at a spot of two triangles", () -> map.at(20, 20));
        CHECK.answers(60, "on the edge of two triangles", () -> map.at(20, 10));
        CHECK.answers(15, "on the border", () -> map.at(10, 0));
        CHECK.answers(35, "inside", () -> map.at(10, 5));
        CHECK.answers(45, "inside, on the other side", () -> map.at(30, 5));
        SpotContours right = Maps.of(0, 0, 0, 0, 60, 600, 60, 0, 60);
        CHECK.answers(220, "in a triangle that turns right", () -> right.at(20, 20));
    }

    private static void roundedDown() {
        SpotContours map = Maps.of(0, 0, 0, 3, 0, 1, 0, 3, 1);
        CHECK.answers(0, "a third", () -> map.at(1, 0));
        CHECK.answers(0, "two thirds", () -> map.at(1, 1));
        CHECK.answers(1, "just one", () -> map.at(1, 2));
        SpotContours down = Maps.of(0, 0, 999, 7, 0, 0, 0, 7, 500);
        CHECK.answers(856, "999 - 999 / 7", () -> down.at(1, 0));
        CHECK.answers(927, "999 - 499 / 7", () -> down.at(0, 1));
        SpotContours wide = Maps.of(0, 0, 999, 63, 0, 999, 0, 63, 999, 63, 63, 999);
        CHECK.answers(999, "level ground", () -> wide.at(31, 17));
    }

    private static void inNoTriangle() {
        CHECK.fails(Check.ELEMENT, "at a spot without a triangle", () -> Maps.of(4, 4, 9).at(4, 4));
        CHECK.fails(Check.ELEMENT, "between two spots", () -> Maps.of(4, 4, 9, 8, 8, 9).at(6, 6));
        SpotContours map = Maps.of(10, 10, 5, 20, 10, 5, 10, 20, 5);
        int[] far = {Integer.MIN_VALUE, Integer.MIN_VALUE + 10, -65536, -46341, -1, 64, 46341, 65536, 65546,
            Integer.MAX_VALUE};
        CHECK.fails(Check.ELEMENT, "beside the border", () -> map.at(16, 15));
        CHECK.fails(Check.ELEMENT, "beside a corner", () -> map.at(9, 10));
        CHECK.fails(Check.ELEMENT, "in a line with the border", () -> map.at(21, 10));
        for (int x : far) {
            CHECK.fails(Check.ELEMENT, "at " + x + " 12", () -> map.at(x, 12));
            CHECK.fails(Check.ELEMENT, "at 12 " + x, () -> map.at(12, x));
            for (int y : far) {
                CHECK.fails(Check.ELEMENT, "at " + x + " " + y, () -> map.at(x, y));
            }
        }
        CHECK.answers(5, "just at the border", () -> map.at(15, 15));
        CHECK.fails(Check.ELEMENT, "beside 27 triangles", () -> Maps.mostTriangles().at(0, 63));
    }

    private static void afterRaise() {
        SpotContours map = Maps.of(0, 0, 0, 10, 0, 0, 0, 10, 0);
        map.raise(1, 100);
        CHECK.answers(50, "half way up", () -> map.at(5, 0));
        map.spot(5, 5, 7);
        CHECK.answers(7, "at the new spot", () -> map.at(5, 5));
    }
}
