/** Promises 8 to 11, and what the terms say of contours: contours, contour, crossing, place. */
public final class ContourTest {
    private static final Check CHECK = new Check();
    private static final int[] NO_LEVELS = {-1, 999, 1000, -998, 65536, Integer.MIN_VALUE, Integer.MAX_VALUE};
    private static final int[] NO_CONTOURS = {-1, 1, 2, 120, 256, Integer.MIN_VALUE, Integer.MAX_VALUE};
    private static final int[] NO_CROSSINGS = {-1, 4, 5, 120, 256, Integer.MIN_VALUE, Integer.MAX_VALUE};

    public static void main(String[] args) {
        CHECK.sentence("For a LEVEL l, from 0 to 998", ContourTest::leastAndGreatestLevel);
        CHECK.sentence("HIGH when its height is more than l, else (so with just l) LOW", ContourTest::justTheLevel);
        CHECK.sentence("A CROSSING is an edge of a high spot h and a low one w.", ContourTest::allHighOrAllLow);
        CHECK.sentence("(So the high ground is on the left of who goes.)", ContourTest::highGroundOnTheLeft);
        CHECK.sentence("One that begins at the border begins there", ContourTest::beginsAtTheBorder);
        CHECK.sentence("a ring with its least crossing", ContourTest::rings);
        CHECK.sentence("is less than another one if u is less, or u the same and v less",
                ContourTest::leastByLesserSpot);
        CHECK.sentence("Contours of a level are numbered by their least crossings.", ContourTest::numbered);
        CHECK.sentence("A ring is a HOLLOW when", ContourTest::hollows);
        CHECK.sentence("(any of them, if there are several)", ContourTest::severalWithTheLeastX);
        CHECK.sentence("of all the spots of its crossings", ContourTest::ringsInOneAnother);
        CHECK.sentence("THE PLACE of a crossing of h and w", ContourTest::places);
        CHECK.sentence("rounded down (z: heights); y likewise", ContourTest::placesRoundedDown);
        CHECK.sentence("How many contours a level has (0 without triangles).", ContourTest::withoutTriangles);
        CHECK.sentence("(contours) IllegalArgumentException when it is no level.", ContourTest::contoursOfNoLevel);
        CHECK.sentence("1000 more if it is a ring, and 1000 more again (so 2000) if it is a hollow",
                ContourTest::thousands);
        CHECK.sentence("(contour) IllegalArgumentException when it is no level", ContourTest::contourOfNoLevel);
        CHECK.sentence("(contour) IndexOutOfBoundsException when there is no such contour.", ContourTest::noContour);
        CHECK.sentence("16 times its lesser spot, + the other one", ContourTest::lesserSpotFirst);
        CHECK.sentence("(crossing) IllegalArgumentException, first, when it is no level",
                ContourTest::crossingOfNoLevel);
        CHECK.sentence("(crossing) when there is no such contour or crossing.", ContourTest::noCrossing);
        CHECK.sentence("64 times x, + y", ContourTest::leastAndGreatestPlace);
        CHECK.sentence("Throws as crossing() does. (no level)", ContourTest::placeOfNoLevel);
        CHECK.sentence("Throws as crossing() does. (no crossing)", ContourTest::noPlace);
        CHECK.finish();
    }

    private static void leastAndGreatestLevel() {
        SpotContours map = Maps.of(0, 0, 0, 9, 0, 999, 0, 9, 500);
        CHECK.answers(1, "contours of 0", () -> map.contours(0));
        CHECK.answers(1, "contours of 998", () -> map.contours(998));
        CHECK.answers(2, "contour of 0", () -> map.contour(0, 0));
        CHECK.answers(2, "contour of 998", () -> map.contour(998, 0));
        CHECK.same("2: 0-2 0-1", "level 0", Maps.contours(map, 0));
        CHECK.same("2: 1-2 0-1", "level 998", Maps.contours(map, 998));
        CHECK.fails(Check.ARGUMENT, "contours of -1", () -> map.contours(-1));
        CHECK.fails(Check.ARGUMENT, "contours of 999", () -> map.contours(999));
    }

    private static void justTheLevel() {
        SpotContours map = Maps.of(0, 0, 0, 9, 0, 999, 0, 9, 500);
        CHECK.same("2: 0-2 0-1", "500 is high at 499", Maps.contours(map, 499));
        CHECK.same("2: 1-2 0-1", "500 is low at 500", Maps.contours(map, 500));
        map.raise(2, 1);
        CHECK.same("2: 0-2 0-1", "1 is high at 0", Maps.contours(map, 0));
        CHECK.same("2: 1-2 0-1", "1 is low at 1", Maps.contours(map, 1));
        map.raise(2, 998);
        CHECK.same("2: 1-2 0-1", "998 is low at 998", Maps.contours(map, 998));
        map.raise(2, 999);
        CHECK.same("2: 0-2 0-1", "999 is high at 998", Maps.contours(map, 998));
    }

    private static void allHighOrAllLow() {
        SpotContours flat = Maps.of(0, 0, 7, 9, 0, 7, 0, 9, 7);
        CHECK.answers(0, "all low", () -> flat.contours(7));
        CHECK.answers(0, "all high", () -> flat.contours(6));
        SpotContours ground = Maps.of(0, 0, 0, 9, 0, 0, 0, 9, 0);
        CHECK.answers(0, "all low at the least level", () -> ground.contours(0));
        SpotContours roof = Maps.of(0, 0, 999, 9, 0, 999, 0, 9, 999);
        CHECK.answers(0, "all high at the greatest level", () -> roof.contours(998));
        SpotContours square = Maps.of(10, 10, 9, 30, 10, 0, 30, 30, 0, 10, 30, 0);
        CHECK.same("2: 0-1 0-3", "a high and a low one without an edge, 0 and 2", Maps.contours(square, 4));
    }

    private static void highGroundOnTheLeft() {
        SpotContours map = Maps.of(0, 0, 10, 20, 0, 20, 40, 0, 30, 20, 20, 100);
        CHECK.same("3: 0-3 1-3 1-2", "two of three are high", Maps.contours(map, 25));
        map.raise(3, 0);
        CHECK.same("2: 2-3 1-2", "one is high", Maps.contours(map, 25));
        CHECK.same("2: 0-1 0-2", "0 is high, a left turn", Maps.contours(Maps.of(0, 0, 9, 9, 0, 0, 0, 9, 0), 4));
        CHECK.same("2: 0-2 0-1", "0 is low, a left turn", Maps.contours(Maps.of(0, 0, 0, 9, 0, 9, 0, 9, 9), 4));
        CHECK.same("2: 0-2 0-1", "0 is high, a right turn", Maps.contours(Maps.of(0, 0, 9, 0, 9, 0, 9, 0, 0), 4));
        CHECK.same("2: 0-1 0-2", "0 is low, a right turn", Maps.contours(Maps.of(0, 0, 0, 0, 9, 9, 9, 0, 9), 4));
        CHECK.same("1004: 0-4 1-4 2-4 3-4", "around a hill to the left", Maps.contours(Maps.hill(), 40));
        CHECK.same("2004: 0-4 3-4 2-4 1-4", "around a hollow to the right", Maps.contours(Maps.hollow(), 40));
    }

    private static void beginsAtTheBorder() {
        SpotContours line = Maps.of(30, 30, 9, 30, 40, 0, 0, 30, 9, 63, 30, 9, 0, 41, 0, 63, 41, 0);
        CHECK.same("5: 3-5 1-3 0-1 1-2 2-4", "the least is in the middle", Maps.contours(line, 4));
        SpotContours turned = Maps.of(30, 30, 0, 30, 40, 9, 0, 30, 0, 63, 30, 0, 0, 41, 9, 63, 41, 9);
        CHECK.same("5: 2-4 1-2 0-1 1-3 3-5", "from the other end", Maps.contours(turned, 4));
        CHECK.same("2: 0-2 0-1", "the least is the end", Maps.contours(Maps.of(0, 0, 0, 9, 0, 9, 0, 9, 9), 4));
    }

    private static void rings() {
        CHECK.same("1004: 0-4 1-4 2-4 3-4", "a ring of four", Maps.contours(Maps.hill(), 40));
        SpotContours far = Maps.of(30, 30, 0, 10, 30, 0, 10, 10, 0, 30, 10, 0, 20, 20, 90);
        CHECK.same("1004: 0-4 1-4 2-4 3-4", "with the least at the far corner", Maps.contours(far, 40));
        SpotContours three = Maps.of(0, 0, 0, 60, 0, 0, 0, 60, 0, 10, 10, 5);
        CHECK.same("1003: 0-3 1-3 2-3", "a ring of three", Maps.contours(three, 2));
    }

    /** The edge 0-5 is less than 1-2, though its other spot is not; 0-1 is less than 0-2. */
    private static void leastByLesserSpot() {
        SpotContours ring = Maps.of(0, 30, 0, 60, 30, 0, 40, 30, 9, 30, 50, 0, 30, 10, 0, 20, 30, 9);
        CHECK.same("1006: 0-5 4-5 2-4 1-2 2-3 3-5", "a ring around two", Maps.contours(ring, 4));
        SpotContours mixed = Maps.of(20, 20, 9, 30, 30, 0, 10, 10, 0, 30, 10, 0, 10, 30, 0);
        CHECK.same("1004: 0-1 0-4 0-2 0-3", "u is the same", Maps.contours(mixed, 4));
        CHECK.same("3: 6-7 5-7 0-5; 3: 1-2 2-3 3-4", "two from border to border", Maps.contours(fourColumns(), 4));
    }

    /** High ground in the first and the last of four columns of two spots. */
    private static SpotContours fourColumns() {
        return Maps.of(60, 0, 9, 0, 0, 9, 20, 0, 0, 0, 20, 9, 20, 20, 0, 40, 0, 0, 40, 20, 0, 60, 20, 9);
    }

    private static void numbered() {
        SpotContours two = Maps.of(30, 30, 9, 30, 40, 0, 0, 30, 9, 63, 30, 9, 0, 41, 0, 63, 41, 0, 31, 0, 0);
        CHECK.same("5: 3-5 1-3 0-1 1-2 2-4; 3: 2-6 0-6 3-6", "not by the crossing that it begins with",
                Maps.contours(two, 4));
        for (int level = 0; level < 999; level += 7) {
            SpotContours map = Maps.grid(0, 600, 200, 800, 400);
            int last = -1;
            for (int k = 0; k < map.contours(level); k++) {
                int least = leastCrossing(map, level, k);
                CHECK.holds("level " + level + ", contour " + k + " is behind that before it", least > last);
                last = least;
            }
        }
    }

    private static int leastCrossing(SpotContours map, int level, int k) {
        int least = Integer.MAX_VALUE;
        int length = map.contour(level, k) % 1000;
        for (int j = 0; j < length; j++) {
            least = Math.min(least, map.crossing(level, k, j));
        }
        return least;
    }

    /** Four spots round one in the middle, the one with the least x not in the first crossing. */
    private static void hollows() {
        SpotContours hollow = Maps.of(30, 20, 90, 20, 30, 90, 10, 20, 90, 20, 10, 90, 20, 20, 0);
        CHECK.answers(2004, "a hollow", () -> hollow.contour(40, 0));
        SpotContours hill = Maps.of(30, 20, 0, 20, 30, 0, 10, 20, 0, 20, 10, 0, 20, 20, 90);
        CHECK.answers(1004, "a hill", () -> hill.contour(40, 0));
        SpotContours both = Maps.of(0, 0, 50, 60, 0, 50, 60, 60, 50, 0, 60, 50, 30, 20, 0, 30, 40, 99);
        CHECK.answers(1, "contours at the hollow's level", () -> both.contours(20));
        CHECK.answers(2, "a hollow", () -> both.contour(20, 0) / 1000);
        CHECK.answers(1, "contours at the hill's level", () -> both.contours(70));
        CHECK.answers(1, "a hill", () -> both.contour(70, 0) / 1000);
    }

    private static void severalWithTheLeastX() {
        CHECK.answers(2004, "two, a hollow", () -> Maps.hollow().contour(40, 0));
        CHECK.answers(1004, "two, a hill", () -> Maps.hill().contour(40, 0));
        SpotContours hollow = Maps.hollow();
        hollow.spot(10, 20, 90);
        CHECK.answers(2005, "three, a hollow", () -> hollow.contour(40, 0));
        SpotContours hill = Maps.hill();
        hill.spot(10, 20, 0);
        CHECK.answers(1005, "three, a hill", () -> hill.contour(40, 0));
    }

    /** Around a middle spot four others, and four more around these. */
    private static void ringsInOneAnother() {
        SpotContours map = Maps.of(0, 0, 0, 63, 0, 0, 63, 63, 0, 0, 63, 0, 20, 20, 90, 44, 20, 90, 44, 44, 90, 20, 44,
                90, 32, 32, 0);
        CHECK.answers(2, "contours", () -> map.contours(40));
        CHECK.answers(1008, "the outer one is a hill", () -> map.contour(40, 0));
        CHECK.answers(2004, "the inner one is a hollow", () -> map.contour(40, 1));
        SpotContours turned = Maps.of(0, 0, 90, 63, 0, 90, 63, 63, 90, 0, 63, 90, 20, 20, 0, 44, 20, 0, 44, 44, 0, 20,
                44, 0, 32, 32, 90);
        CHECK.answers(2, "contours", () -> turned.contours(40));
        CHECK.answers(2008, "the outer one is a hollow", () -> turned.contour(40, 0));
        CHECK.answers(1004, "the inner one is a hill", () -> turned.contour(40, 1));
    }

    private static void places() {
        SpotContours steep = Maps.of(0, 0, 0, 63, 0, 999, 0, 63, 999);
        CHECK.answers(0, "just above the low end", () -> steep.place(0, 0, 0));
        CHECK.answers(62, "just below the high end", () -> steep.place(998, 0, 0));
        CHECK.answers(64 * 62, "just below the high end", () -> steep.place(998, 0, 1));
        SpotContours fall = Maps.of(0, 0, 999, 63, 0, 0, 0, 63, 0);
        CHECK.answers(64 * 62, "just above the low end", () -> fall.place(0, 0, 0));
        CHECK.answers(62, "just above the low end", () -> fall.place(0, 0, 1));
        CHECK.answers(0, "just below the high end", () -> fall.place(998, 0, 0));
        SpotContours step = Maps.of(0, 0, 4, 10, 0, 5, 0, 10, 5);
        CHECK.answers(5, "in the middle of a step of one", () -> step.place(4, 0, 0));
        CHECK.answers(64 * 5, "in the middle of a step of one", () -> step.place(4, 0, 1));
        SpotContours near = Maps.of(0, 0, 998, 60, 0, 999, 0, 60, 999);
        CHECK.answers(30, "a step of one at the greatest level", () -> near.place(998, 0, 0));
    }

    private static void placesRoundedDown() {
        SpotContours map = Maps.hill();
        CHECK.answers(64 * 14 + 14, "from 10 up to 20", () -> map.place(40, 0, 0));
        CHECK.answers(64 * 25 + 14, "x from 30 down to 20", () -> map.place(40, 0, 1));
        CHECK.answers(64 * 25 + 25, "both from 30 down to 20", () -> map.place(40, 0, 2));
        CHECK.answers(64 * 14 + 25, "y from 30 down to 20", () -> map.place(40, 0, 3));
        SpotContours fall = Maps.of(10, 10, 0, 7, 10, 1, 10, 7, 1);
        CHECK.answers(64 * 10 + 8, "y of 10 - 1.5", () -> fall.place(0, 0, 0));
        CHECK.answers(64 * 8 + 10, "x of 10 - 1.5", () -> fall.place(0, 0, 1));
        SpotContours whole = Maps.of(10, 10, 0, 6, 10, 1, 10, 6, 1);
        CHECK.answers(64 * 10 + 8, "y of 10 - 2", () -> whole.place(0, 0, 0));
        CHECK.answers(64 * 8 + 10, "x of 10 - 2", () -> whole.place(0, 0, 1));
        SpotContours rise = Maps.of(10, 10, 0, 13, 10, 1, 10, 13, 1);
        CHECK.answers(64 * 10 + 11, "y of 10 + 1.5", () -> rise.place(0, 0, 0));
        CHECK.answers(64 * 11 + 10, "x of 10 + 1.5", () -> rise.place(0, 0, 1));
    }

    private static void withoutTriangles() {
        CHECK.answers(0, "no spot", () -> new SpotContours().contours(4));
        CHECK.answers(0, "one spot", () -> Maps.of(0, 0, 9).contours(4));
        CHECK.answers(0, "a high and a low one", () -> Maps.of(0, 0, 9, 9, 9, 0).contours(4));
        CHECK.answers(0, "three in a line", () -> Maps.of(0, 0, 0, 9, 0, 9, 18, 0, 0).contours(4));
        CHECK.answers(0, "16 in a line", () -> Maps.line(16, 0, 9).contours(4));
        SpotContours beside = Maps.line(15, 0, 9);
        beside.spot(0, 63, 0);
        CHECK.answers(7, "15 in a line and one beside them", () -> beside.contours(4));
    }

    private static void contoursOfNoLevel() {
        for (int level : NO_LEVELS) {
            CHECK.fails(Check.ARGUMENT, "level " + level, () -> Maps.hill().contours(level));
            CHECK.fails(Check.ARGUMENT, "level " + level + ", no spots", () -> new SpotContours().contours(level));
            CHECK.fails(Check.ARGUMENT, "level " + level + ", no triangles", () -> Maps.line(16, 0, 9).contours(level));
        }
    }

    private static void thousands() {
        CHECK.answers(1004, "a ring", () -> Maps.hill().contour(40, 0));
        CHECK.answers(2004, "a hollow", () -> Maps.hollow().contour(40, 0));
        CHECK.answers(2, "from border to border", () -> Maps.of(0, 0, 9, 9, 0, 0, 0, 9, 0).contour(4, 0));
        CHECK.answers(2, "with the least x high", () -> Maps.of(9, 0, 0, 0, 0, 9, 9, 9, 0).contour(4, 0));
        SpotContours three = Maps.of(0, 0, 5, 60, 0, 5, 0, 60, 5, 10, 10, 0);
        CHECK.answers(2003, "a hollow of three", () -> three.contour(2, 0));
    }

    private static void contourOfNoLevel() {
        SpotContours map = Maps.hill();
        for (int level : NO_LEVELS) {
            CHECK.fails(Check.ARGUMENT, "level " + level, () -> map.contour(level, 0));
            CHECK.fails(Check.ARGUMENT, "level " + level + " and no contour", () -> map.contour(level, -1));
            CHECK.fails(Check.ARGUMENT, "level " + level + ", no spots", () -> new SpotContours().contour(level, 0));
        }
    }

    private static void noContour() {
        SpotContours map = Maps.hill();
        for (int k : NO_CONTOURS) {
            CHECK.fails(Check.INDEX, "contour " + k, () -> map.contour(40, k));
        }
        CHECK.fails(Check.INDEX, "of a level without one", () -> map.contour(90, 0));
        CHECK.fails(Check.INDEX, "no spots", () -> new SpotContours().contour(40, 0));
        CHECK.fails(Check.INDEX, "no triangles", () -> Maps.line(16, 0, 90).contour(40, 0));
        CHECK.answers(3, "the last of two", () -> fourColumns().contour(4, 1));
        CHECK.fails(Check.INDEX, "behind the last of two", () -> fourColumns().contour(4, 2));
        CHECK.fails(Check.INDEX, "there were two at the level before", () -> {
            SpotContours two = fourColumns();
            two.contours(4);
            return two.contour(9, 0);
        });
    }

    private static void lesserSpotFirst() {
        CHECK.answers(4, "the other one is high", () -> Maps.hill().crossing(40, 0, 0));
        CHECK.answers(4, "the other one is low", () -> Maps.hollow().crossing(40, 0, 0));
        CHECK.answers(16 * 3 + 4, "3 and 4", () -> Maps.hill().crossing(40, 0, 3));
        SpotContours grid = Maps.grid(0);
        grid.raise(15, 9);
        CHECK.answers(16 * 11 + 15, "11 and 15", () -> grid.crossing(4, 0, 0));
        CHECK.answers(16 * 14 + 15, "the greatest", () -> grid.crossing(4, 0, 1));
    }

    private static void crossingOfNoLevel() {
        SpotContours map = Maps.hill();
        for (int level : NO_LEVELS) {
            CHECK.fails(Check.ARGUMENT, "level " + level, () -> map.crossing(level, 0, 0));
            CHECK.fails(Check.ARGUMENT, "level " + level + " and no contour", () -> map.crossing(level, -1, 0));
            CHECK.fails(Check.ARGUMENT, "level " + level + " and no crossing", () -> map.crossing(level, 0, 4));
            CHECK.fails(Check.ARGUMENT, "level " + level + ", no spots",
                    () -> new SpotContours().crossing(level, 0, 0));
        }
    }

    private static void noCrossing() {
        SpotContours map = Maps.hill();
        CHECK.answers(16 * 3 + 4, "the last", () -> map.crossing(40, 0, 3));
        for (int k : NO_CONTOURS) {
            CHECK.fails(Check.INDEX, "contour " + k, () -> map.crossing(40, k, 0));
        }
        for (int j : NO_CROSSINGS) {
            CHECK.fails(Check.INDEX, "crossing " + j, () -> map.crossing(40, 0, j));
        }
        CHECK.fails(Check.INDEX, "neither", () -> map.crossing(40, 1, 4));
        CHECK.fails(Check.INDEX, "of a level without one", () -> map.crossing(90, 0, 0));
        CHECK.fails(Check.INDEX, "no spots", () -> new SpotContours().crossing(40, 0, 0));
        CHECK.fails(Check.INDEX, "a crossing of the next contour", () -> fourColumns().crossing(4, 0, 3));
        CHECK.fails(Check.INDEX, "a crossing of the contour before", () -> fourColumns().crossing(4, 1, -1));
    }

    private static void leastAndGreatestPlace() {
        SpotContours map = Maps.of(63, 0, 999, 63, 63, 0, 0, 0, 999);
        CHECK.answers(64 * 63 + 62, "the greatest", () -> map.place(0, 0, 0));
        CHECK.answers(64 * 62 + 62, "y is as x", () -> map.place(0, 0, 1));
        CHECK.answers(64 * 63, "y of 0", () -> map.place(998, 0, 0));
        CHECK.answers(0, "the least", () -> map.place(998, 0, 1));
    }

    private static void placeOfNoLevel() {
        SpotContours map = Maps.hill();
        for (int level : NO_LEVELS) {
            CHECK.fails(Check.ARGUMENT, "level " + level, () -> map.place(level, 0, 0));
            CHECK.fails(Check.ARGUMENT, "level " + level + " and no contour", () -> map.place(level, -1, 0));
            CHECK.fails(Check.ARGUMENT, "level " + level + " and no crossing", () -> map.place(level, 0, 4));
            CHECK.fails(Check.ARGUMENT, "level " + level + ", no spots", () -> new SpotContours().place(level, 0, 0));
        }
    }

    private static void noPlace() {
        SpotContours map = Maps.hill();
        for (int k : NO_CONTOURS) {
            CHECK.fails(Check.INDEX, "contour " + k, () -> map.place(40, k, 0));
        }
        for (int j : NO_CROSSINGS) {
            CHECK.fails(Check.INDEX, "crossing " + j, () -> map.place(40, 0, j));
        }
        CHECK.fails(Check.INDEX, "neither", () -> map.place(40, 1, 4));
        CHECK.fails(Check.INDEX, "of a level without one", () -> map.place(90, 0, 0));
        CHECK.fails(Check.INDEX, "no spots", () -> new SpotContours().place(40, 0, 0));
        CHECK.fails(Check.INDEX, "a crossing of the next contour", () -> fourColumns().place(4, 0, 3));
        CHECK.fails(Check.INDEX, "a crossing of the contour before", () -> fourColumns().place(4, 1, -1));
    }
}
