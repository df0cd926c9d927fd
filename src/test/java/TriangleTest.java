/** Promises 4 to 6: triangles, corner, edge. */
public final class TriangleTest {
    private static final Check CHECK = new Check();

    public static void main(String[] args) {
        fewSpots();
        emptyCircles();
        fourOnACircle();
        manyOnACircle();
        mostTriangles();
        corners();
        edges();
        CHECK.finish();
    }

    private static void fewSpots() {
        CHECK.same("", "one spot", Maps.triangles(Maps.of(1, 1, 0)));
        CHECK.same("", "two spots", Maps.triangles(Maps.of(1, 1, 0, 5, 1, 0)));
        CHECK.same("", "three in a line", Maps.triangles(Maps.of(1, 1, 0, 5, 3, 0, 9, 5, 0)));
        CHECK.same("0,1,2", "three that turn left", Maps.triangles(Maps.of(0, 0, 0, 9, 0, 0, 0, 9, 0)));
        CHECK.same("0,1,2", "three that turn right", Maps.triangles(Maps.of(0, 0, 0, 0, 9, 0, 9, 0, 0)));
        CHECK.same("0,1,3 1,2,3", "a line and one beside it", Maps.triangles(Maps.of(0, 0, 0, 20, 0, 0, 40, 0, 0, 20, 20, 0)));
    }

    private static void emptyCircles() {
        CHECK.same("0,1,3 1,2,3", "1 and 3 are near", Maps.triangles(Maps.of(0, 15, 0, 30, 0, 0, 60, 15, 0, 30, 30, 0)));
        CHECK.same("0,1,2 0,2,3", "0 and 2 are near", Maps.triangles(Maps.of(30, 0, 0, 60, 15, 0, 30, 30, 0, 0, 15, 0)));
        CHECK.same("0,1,3 0,2,3 1,2,3", "one amid three", Maps.triangles(Maps.of(0, 0, 0, 60, 0, 0, 0, 60, 0, 10, 10, 0)));
        SpotContours map = Maps.of(30, 0, 0, 60, 15, 0, 30, 30, 0, 0, 15, 0);
        map.spot(30, 15, 0);
        CHECK.same("0,1,4 0,3,4 1,2,4 2,3,4", "a spot breaks them", Maps.triangles(map));
    }

    private static void fourOnACircle() {
        CHECK.same("0,1,3 1,2,3", "around", Maps.triangles(Maps.of(10, 10, 0, 30, 10, 0, 30, 30, 0, 10, 30, 0)));
        CHECK.same("0,1,3 1,2,3", "the other way around", Maps.triangles(Maps.of(10, 10, 0, 10, 30, 0, 30, 30, 0, 30, 10, 0)));
        CHECK.same("0,1,2 1,2,3", "3 opposite 0", Maps.triangles(Maps.of(10, 10, 0, 30, 10, 0, 10, 30, 0, 30, 30, 0)));
        CHECK.same("0,2,3 1,2,3", "1 opposite 0", Maps.triangles(Maps.of(10, 10, 0, 30, 30, 0, 10, 30, 0, 30, 10, 0)));
        CHECK.same("0,1,3 1,2,3", "no rectangle", Maps.triangles(Maps.of(55, 30, 0, 45, 50, 0, 5, 30, 0, 30, 5, 0)));
    }

    private static void manyOnACircle() {
        int[] around = {55, 30, 0, 50, 45, 0, 45, 50, 0, 30, 55, 0, 15, 50, 0, 5, 30, 0, 30, 5, 0};
        CHECK.same("0,1,6 1,2,6 2,3,6 3,4,6 4,5,6", "each least one is cut off", Maps.triangles(Maps.of(around)));
        int[] mixed = {30, 55, 0, 55, 30, 0, 30, 5, 0, 5, 30, 0, 45, 50, 0, 15, 50, 0, 15, 10, 0, 45, 10, 0};
        CHECK.same("0,4,5 1,4,7 2,6,7 3,5,6 4,5,7 5,6,7", "mixed numbers", Maps.triangles(Maps.of(mixed)));
        CHECK.answers(18, "a grid of 16", () -> Maps.grid(0).triangles());
    }

    private static void mostTriangles() {
        SpotContours map = Maps.mostTriangles();
        CHECK.answers(27, "16 spots with three at the border", map::triangles);
        CHECK.answers(15, "the greatest corner", () -> map.corner(26, 2));
        CHECK.fails(Check.INDEX, "no 28th", () -> map.corner(27, 0));
    }

    private static void corners() {
        SpotContours map = Maps.of(0, 0, 0, 20, 0, 0, 40, 0, 0, 20, 20, 0);
        CHECK.answers(0, "corner", () -> map.corner(0, 0));
        CHECK.answers(1, "corner", () -> map.corner(0, 1));
        CHECK.answers(3, "corner", () -> map.corner(0, 2));
        CHECK.answers(1, "corner", () -> map.corner(1, 0));
        CHECK.answers(2, "corner", () -> map.corner(1, 1));
        CHECK.answers(3, "corner", () -> map.corner(1, 2));
        int[][] wrong = {{-1, 0}, {2, 0}, {0, -1}, {0, 3}, {1, 3}, {Integer.MAX_VALUE, 0}, {Integer.MIN_VALUE, 2},
            {0, Integer.MAX_VALUE}, {2, 3}};
        for (int[] w : wrong) {
            CHECK.fails(Check.INDEX, "corner " + w[0] + " " + w[1], () -> map.corner(w[0], w[1]));
        }
    }

    private static void edges() {
        SpotContours map = Maps.of(0, 0, 0, 20, 0, 0, 40, 0, 0, 20, 20, 0);
        int[][] due = {{0, 1, 0, 1}, {1, 0, 1, 2}, {0, 1, 0, 1}, {1, 2, 1, 0}};
        for (int a = 0; a < 4; a++) {
            for (int b = 0; b < 4; b++) {
                int from = a;
                int to = b;
                CHECK.answers(due[a][b], "edge " + a + " " + b, () -> map.edge(from, to));
            }
        }
        int[][] wrong = {{-1, 0}, {0, -1}, {4, 0}, {0, 4}, {4, 4}, {-1, -1}, {16, 0}, {0, Integer.MAX_VALUE}};
        for (int[] w : wrong) {
            CHECK.fails(Check.INDEX, "edge " + w[0] + " " + w[1], () -> map.edge(w[0], w[1]));
        }
        CHECK.answers(0, "two spots without a triangle", () -> Maps.of(0, 0, 0, 9, 9, 0).edge(0, 1));
        CHECK.answers(0, "one spot", () -> Maps.of(0, 0, 0).edge(0, 0));
    }
}
