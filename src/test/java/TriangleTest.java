/** Promises 4 to 6, and what the terms say of triangles: triangles, corner, edge. */
public final class TriangleTest {
    private static final Check CHECK = new Check();
    /** Spots in the order around a circle, x and y each; all are 25 from 30, 30. */
    private static final int[] CIRCLE = {55, 30, 54, 37, 50, 45, 45, 50, 37, 54, 30, 55, 23, 54, 15, 50, 10, 45, 6, 37,
        5, 30, 6, 23, 10, 15, 15, 10, 23, 6, 30, 5};

    public static void main(String[] args) {
        CHECK.sentence("else they are in a line", TriangleTest::inALine);
        CHECK.sentence("when it is nearer to its middle than these", TriangleTest::nearTheCircle);
        CHECK.sentence("the one of them with the least number is not d, and not the one opposite d",
                TriangleTest::fourOnACircle);
        CHECK.sentence("the one of them with the least number is not d, and not the one opposite d",
                TriangleTest::manyOnACircle);
        CHECK.sentence("TRIANGLES are all threes of spots, not in a line", TriangleTest::spotsInALine);
        CHECK.sentence("with no other spot in the circle through them", TriangleTest::emptyCircles);
        CHECK.sentence("So they cover the space between all spots, and do not overlap.", TriangleTest::cover);
        CHECK.sentence("They are numbered by their spots a < b < c: by a, then b, then c.", TriangleTest::numbered);
        CHECK.sentence("an edge of just one triangle is at the BORDER", TriangleTest::border);
        CHECK.sentence("How many triangles there are.", TriangleTest::fewSpots);
        CHECK.sentence("How many triangles there are.", TriangleTest::mostTriangles);
        CHECK.sentence("Spot k (0 .. 2, rising) of triangle i.", TriangleTest::corners);
        CHECK.sentence("IndexOutOfBoundsException when there is no such triangle or k.", TriangleTest::noCorner);
        CHECK.sentence("Of the edge between two spots (in either order): how many triangles have it",
                TriangleTest::edges);
        CHECK.sentence("0 if there is none", TriangleTest::noEdge);
        CHECK.sentence("or both are the same", TriangleTest::sameSpotTwice);
        CHECK.sentence("IndexOutOfBoundsException when there is no such spot.", TriangleTest::edgeOfNoSpot);
        CHECK.finish();
    }

    private static void triangles(String due, String what, int... places) {
        SpotContours map = new SpotContours();
        for (int i = 0; i < places.length; i += 2) {
            map.spot(places[i], places[i + 1], 0);
        }
        CHECK.same(due, what, Maps.triangles(map));
    }

    private static void inALine() {
        triangles("", "a line to the right", 1, 5, 9, 5, 63, 5);
        triangles("", "a line upwards", 5, 63, 5, 0, 5, 1);
        triangles("", "a slanting line", 1, 1, 5, 3, 9, 5);
        triangles("0,1,2", "the formula gives -1", 0, 0, 63, 62, 62, 61);
        triangles("0,1,2", "the formula gives 1", 0, 0, 62, 61, 63, 62);
        triangles("0,1,2", "a left turn", 0, 0, 9, 0, 0, 9);
        triangles("0,1,2", "a right turn", 0, 0, 0, 9, 9, 0);
    }

    /** Spots 25 from 30, 30 and one nearer, as near, or farther. On the circle the numbers decide. */
    private static void nearTheCircle() {
        triangles("0,1,3 1,2,3", "24 from the middle", 55, 30, 30, 55, 5, 30, 30, 6);
        triangles("0,1,3 1,2,3", "25 from the middle", 55, 30, 30, 55, 5, 30, 30, 5);
        triangles("0,1,2 0,2,3", "26 from the middle", 55, 30, 30, 55, 5, 30, 30, 4);
        triangles("0,1,3 0,2,3", "24 from the middle", 30, 55, 55, 30, 5, 30, 30, 6);
        triangles("0,1,2 1,2,3", "25 from the middle", 30, 55, 55, 30, 5, 30, 30, 5);
        triangles("0,1,2 1,2,3", "26 from the middle", 30, 55, 55, 30, 5, 30, 30, 4);
        triangles("0,1,3 0,2,3", "nearer by less than a 10000th", 5, 63, 52, 48, 6, 40, 23, 28);
    }

    private static void fourOnACircle() {
        triangles("0,1,3 1,2,3", "2 opposite 0", 10, 10, 30, 10, 30, 30, 10, 30);
        triangles("0,1,3 1,2,3", "2 opposite 0, the other way around", 10, 10, 10, 30, 30, 30, 30, 10);
        triangles("0,1,2 1,2,3", "3 opposite 0", 10, 10, 30, 10, 10, 30, 30, 30);
        triangles("0,1,2 1,2,3", "3 opposite 0, the other way around", 10, 10, 10, 30, 30, 10, 30, 30);
        triangles("0,2,3 1,2,3", "1 opposite 0", 10, 10, 30, 30, 10, 30, 30, 10);
        triangles("0,2,3 1,2,3", "1 opposite 0, the other way around", 10, 10, 30, 30, 30, 10, 10, 30);
        triangles("0,1,3 1,2,3", "no rectangle", 55, 30, 45, 50, 5, 30, 30, 5);
        triangles("0,1,3 1,2,3", "the whole map", 0, 0, 63, 0, 63, 63, 0, 63);
        triangles("0,1,3 1,2,3", "the least square", 5, 5, 6, 5, 6, 6, 5, 6);
    }

    private static void manyOnACircle() {
        triangles("0,1,6 1,2,6 2,3,6 3,4,6 4,5,6", "each least one is cut off", 55, 30, 50, 45, 45, 50, 30, 55, 15, 50,
                5, 30, 30, 5);
        triangles("0,4,5 1,4,7 2,6,7 3,5,6 4,5,7 5,6,7", "mixed numbers", 30, 55, 55, 30, 30, 5, 5, 30, 45, 50, 15, 50,
                15, 10, 45, 10);
        // Around the circle come 0, 7, 14, 5, 12, 3, 10, 1, 8, 15, 6, 13, 4, 11, 2, 9; cut off the least ones in turn.
        int[] sixteen = new int[32];
        for (int i = 0; i < 16; i++) {
            sixteen[2 * (7 * i % 16)] = CIRCLE[2 * i];
            sixteen[2 * (7 * i % 16) + 1] = CIRCLE[2 * i + 1];
        }
        triangles("0,7,9 1,8,10 2,9,11 3,10,12 4,11,13 5,12,14 6,13,15 7,9,14 8,10,15 9,11,14 10,12,15 11,13,14 "
                + "12,14,15 13,14,15", "all 16", sixteen);
    }

    private static void spotsInALine() {
        CHECK.answers(0, "16 in a line", () -> Maps.line(16).triangles());
        SpotContours beside = Maps.line(15);
        beside.spot(0, 1, 0);
        CHECK.answers(14, "15 in a line and one just beside them", beside::triangles);
        triangles("0,1,3 1,2,3", "three in a line and one beside them", 0, 0, 20, 0, 40, 0, 20, 20);
        triangles("0,1,3 0,2,3", "one in a line with two of a triangle", 20, 0, 40, 20, 0, 20, 20, 20);
    }

    private static void emptyCircles() {
        triangles("0,1,3 1,2,3", "1 and 3 are near", 0, 15, 30, 0, 60, 15, 30, 30);
        triangles("0,1,2 0,2,3", "0 and 2 are near", 30, 0, 60, 15, 30, 30, 0, 15);
        triangles("0,1,3 0,2,3 1,2,3", "one amid three", 0, 0, 60, 0, 0, 60, 10, 10);
        triangles("0,1,4 0,3,4 1,2,4 2,3,4", "a fifth breaks them", 30, 0, 60, 15, 30, 30, 0, 15, 30, 15);
        SpotContours map = Maps.of(30, 0, 0, 60, 15, 0, 30, 30, 0, 0, 15, 0);
        CHECK.answers(2, "before it comes", map::triangles);
        map.spot(30, 15, 0);
        CHECK.answers(4, "when it has come", map::triangles);
        CHECK.answers(0, "an edge that has gone", () -> map.edge(0, 2));
    }

    /** Twice the area of all triangles is that of the space, and each place of the space has a height. */
    private static void cover() {
        CHECK.answers(2 * 63 * 63, "a grid", () -> doubleArea(Maps.grid(0), 21));
        SpotContours map = Maps.grid(5);
        for (int x = 0; x < 64; x += 7) {
            for (int y = 0; y < 64; y += 3) {
                int left = x;
                int up = y;
                CHECK.answers(5, "at " + x + " " + y, () -> map.at(left, up));
            }
        }
    }

    private static int doubleArea(SpotContours grid, int step) {
        int sum = 0;
        for (int i = 0; i < grid.triangles(); i++) {
            int a = grid.corner(i, 0);
            int b = grid.corner(i, 1);
            int c = grid.corner(i, 2);
            sum += step * step * Math.abs((b / 4 - a / 4) * (c % 4 - a % 4) - (b % 4 - a % 4) * (c / 4 - a / 4));
        }
        return sum;
    }

    private static void numbered() {
        triangles("0,1,2 0,1,3", "a and b the same", 30, 0, 30, 30, 0, 15, 60, 15);
        triangles("0,1,3 0,2,3 1,2,3", "a the same", 0, 0, 60, 0, 0, 60, 10, 10);
        triangles("0,4,5 1,2,3 1,2,4 2,4,5", "a less, though b and c are more", 60, 0, 20, 0, 20, 20, 0, 10, 40, 0, 40,
                20);
    }

    private static void border() {
        SpotContours hill = Maps.hill();
        for (int s = 0; s < 4; s++) {
            int a = s;
            CHECK.answers(1, "side " + a, () -> hill.edge(a, (a + 1) % 4));
            CHECK.answers(2, "edge to the middle from " + a, () -> hill.edge(a, 4));
        }
        SpotContours one = Maps.of(0, 0, 0, 9, 0, 0, 0, 9, 0);
        CHECK.answers(1, "a side of the only triangle", () -> one.edge(1, 2));
        one.spot(9, 9, 0);
        CHECK.answers(2, "it is no more at the border", () -> one.edge(1, 2));
    }

    private static void fewSpots() {
        SpotContours map = new SpotContours();
        CHECK.answers(0, "no spot", map::triangles);
        map.spot(1, 1, 0);
        CHECK.answers(0, "one spot", map::triangles);
        map.spot(5, 1, 0);
        CHECK.answers(0, "two spots", map::triangles);
        map.spot(9, 1, 0);
        CHECK.answers(0, "three in a line", map::triangles);
        map.spot(5, 2, 0);
        CHECK.answers(2, "and one beside it", map::triangles);
        CHECK.answers(1, "three", () -> Maps.of(0, 0, 0, 63, 0, 0, 0, 63, 0).triangles());
    }

    private static void mostTriangles() {
        SpotContours map = Maps.mostTriangles();
        CHECK.answers(27, "16 spots with three at the border", map::triangles);
        CHECK.answers(15, "the greatest corner", () -> map.corner(26, 2));
        CHECK.fails(Check.INDEX, "no 28th", () -> map.corner(27, 0));
        CHECK.answers(18, "16 spots with 12 at the border", () -> Maps.grid(0).triangles());
    }

    private static void corners() {
        SpotContours map = Maps.of(0, 0, 0, 20, 0, 0, 40, 0, 0, 20, 20, 0);
        CHECK.answers(0, "triangle 0, corner 0", () -> map.corner(0, 0));
        CHECK.answers(1, "triangle 0, corner 1", () -> map.corner(0, 1));
        CHECK.answers(3, "triangle 0, corner 2", () -> map.corner(0, 2));
        CHECK.answers(1, "triangle 1, corner 0", () -> map.corner(1, 0));
        CHECK.answers(2, "triangle 1, corner 1", () -> map.corner(1, 1));
        CHECK.answers(3, "triangle 1, corner 2", () -> map.corner(1, 2));
        SpotContours right = Maps.of(0, 0, 0, 0, 9, 0, 9, 0, 0);
        CHECK.answers(1, "corner 1 of a right turn", () -> right.corner(0, 1));
        CHECK.answers(2, "corner 2 of a right turn", () -> right.corner(0, 2));
    }

    private static void noCorner() {
        SpotContours map = Maps.of(0, 0, 0, 20, 0, 0, 40, 0, 0, 20, 20, 0);
        int[][] wrong = {{-1, 0}, {-1, 3}, {2, 0}, {2, -1}, {2, 2}, {26, 0}, {27, 0}, {0, -1}, {1, -1}, {0, 3}, {1, 3},
            {0, 4}, {2, 3}, {Integer.MAX_VALUE, 0}, {Integer.MIN_VALUE, 2}, {0, Integer.MAX_VALUE},
            {1, Integer.MIN_VALUE}, {1 << 30, 0}, {1431655766, 0}};
        for (int[] w : wrong) {
            CHECK.fails(Check.INDEX, "corner " + w[0] + " " + w[1], () -> map.corner(w[0], w[1]));
        }
        CHECK.fails(Check.INDEX, "no spots", () -> new SpotContours().corner(0, 0));
        CHECK.fails(Check.INDEX, "no triangles", () -> Maps.line(16).corner(0, 0));
    }

    private static void edges() {
        SpotContours map = Maps.of(0, 0, 0, 20, 0, 0, 40, 0, 0, 20, 20, 0);
        int[][] due = {{0, 1, 0, 1}, {1, 0, 1, 2}, {0, 1, 0, 1}, {1, 2, 1, 0}};
        for (int a = 0; a < 4; a++) {
            for (int b = 0; b < 4; b++) {
                int from = a;
                int to = b;
                CHECK.answers(due[a][b], "edge " + a + " " + b, () -> map.edge(from, to));
            }
        }
        SpotContours full = Maps.grid(0);
        CHECK.answers(1, "the last spots", () -> full.edge(14, 15));
        CHECK.answers(1, "the last spots", () -> full.edge(15, 14));
    }

    private static void noEdge() {
        CHECK.answers(0, "two spots alone", () -> Maps.of(0, 0, 0, 9, 9, 0).edge(0, 1));
        CHECK.answers(0, "two in a line", () -> Maps.line(16).edge(3, 4));
        CHECK.answers(0, "far ones", () -> Maps.grid(0).edge(0, 15));
        SpotContours square = Maps.of(10, 10, 0, 30, 10, 0, 30, 30, 0, 10, 30, 0);
        CHECK.answers(0, "the other way through four on a circle", () -> square.edge(0, 2));
        CHECK.answers(0, "the other way through four on a circle", () -> square.edge(2, 0));
        SpotContours line = Maps.of(0, 0, 0, 20, 0, 0, 40, 0, 0, 20, 20, 0);
        CHECK.answers(0, "with a spot between them at the border", () -> line.edge(0, 2));
    }

    private static void sameSpotTwice() {
        CHECK.answers(0, "one spot", () -> Maps.of(0, 0, 0).edge(0, 0));
        SpotContours full = Maps.grid(0);
        for (int s = 0; s < 16; s++) {
            int a = s;
            CHECK.answers(0, "spot " + a, () -> full.edge(a, a));
        }
    }

    private static void edgeOfNoSpot() {
        SpotContours map = Maps.of(0, 0, 0, 20, 0, 0, 40, 0, 0, 20, 20, 0);
        for (int wrong : new int[] {-1, 4, 15, 16, 256, Integer.MIN_VALUE, Integer.MAX_VALUE}) {
            CHECK.fails(Check.INDEX, "edge 0 " + wrong, () -> map.edge(0, wrong));
            CHECK.fails(Check.INDEX, "edge " + wrong + " 0", () -> map.edge(wrong, 0));
            CHECK.fails(Check.INDEX, "edge " + wrong + " twice", () -> map.edge(wrong, wrong));
        }
        CHECK.fails(Check.INDEX, "no spots", () -> new SpotContours().edge(0, 0));
        CHECK.fails(Check.INDEX, "spot 16 of 16", () -> Maps.grid(0).edge(15, 16));
    }
}
