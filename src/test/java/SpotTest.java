/** Promises 1 to 3: a new object, spot, raise. */
public final class SpotTest {
    private static final Check CHECK = new Check();

    public static void main(String[] args) {
        newObject();
        spotsAreNumbered();
        wrongSpots();
        seventeenthSpot();
        raiseAnswersWhatWas();
        wrongRaises();
        labelsGo();
        objectsAreApart();
        CHECK.finish();
    }

    private static void newObject() {
        SpotContours map = new SpotContours();
        CHECK.answers(0, "new: triangles", map::triangles);
        CHECK.answers(0, "new: labels", map::labels);
        CHECK.answers(0, "new: wipe", map::wipe);
        CHECK.answers(0, "new: contours", () -> map.contours(0));
        CHECK.answers(0, "new: contours of 998", () -> map.contours(998));
        CHECK.answers(0, "new: label", () -> map.label(0));
        CHECK.fails(Check.INDEX, "new: raise", () -> map.raise(0, 0));
        CHECK.fails(Check.INDEX, "new: corner", () -> map.corner(0, 0));
        CHECK.fails(Check.INDEX, "new: edge", () -> map.edge(0, 0));
        CHECK.fails(Check.ELEMENT, "new: at", () -> map.at(0, 0));
        CHECK.fails(Check.INDEX, "new: contour", () -> map.contour(0, 0));
        CHECK.fails(Check.INDEX, "new: crossing", () -> map.crossing(0, 0, 0));
        CHECK.fails(Check.INDEX, "new: place", () -> map.place(0, 0, 0));
        CHECK.fails(Check.INDEX, "new: labelOf", () -> map.labelOf(0, 0));
    }

    private static void spotsAreNumbered() {
        SpotContours map = new SpotContours();
        CHECK.answers(0, "least numbers", () -> map.spot(0, 0, 0));
        CHECK.answers(1, "greatest numbers", () -> map.spot(63, 63, 999));
        CHECK.answers(2, "same x, other y", () -> map.spot(0, 63, 5));
        CHECK.answers(3, "same y, other x", () -> map.spot(63, 0, 5));
        CHECK.answers(4, "x and y exchanged", () -> map.spot(5, 6, 7));
        CHECK.answers(5, "x and y exchanged", () -> map.spot(6, 5, 7));
    }

    private static void wrongSpots() {
        SpotContours map = Maps.of(4, 5, 6);
        int[][] wrong = {
            {-1, 0, 0}, {64, 0, 0}, {0, -1, 0}, {0, 64, 0}, {0, 0, -1}, {0, 0, 1000}, {4, 5, 6}, {4, 5, 7},
            {Integer.MIN_VALUE, 0, 0}, {0, Integer.MAX_VALUE, 0}, {0, 0, Integer.MIN_VALUE},
        };
        for (int[] w : wrong) {
            CHECK.fails(Check.ARGUMENT, "spot " + w[0] + " " + w[1] + " " + w[2], () -> map.spot(w[0], w[1], w[2]));
        }
        CHECK.answers(6, "the spot there is as before", () -> map.raise(0, 6));
        CHECK.answers(1, "no wrong spot has come", () -> map.spot(0, 0, 0));
    }

    private static void seventeenthSpot() {
        SpotContours map = Maps.grid(0, 100);
        CHECK.fails(Check.STATE, "a 17th spot", () -> map.spot(1, 1, 1));
        CHECK.fails(Check.ARGUMENT, "a 17th where there is one", () -> map.spot(21, 42, 1));
        CHECK.fails(Check.ARGUMENT, "a 17th off the map", () -> map.spot(64, 1, 1));
        CHECK.fails(Check.ARGUMENT, "a 17th of no height", () -> map.spot(1, 1, 1000));
        CHECK.fails(Check.INDEX, "no 17th has come", () -> map.raise(16, 0));
        CHECK.answers(18, "the triangles are as before", map::triangles);
    }

    private static void raiseAnswersWhatWas() {
        SpotContours map = Maps.of(0, 0, 10, 8, 0, 20, 0, 8, 30);
        CHECK.answers(20, "raise", () -> map.raise(1, 999));
        CHECK.answers(999, "raise again", () -> map.raise(1, 0));
        CHECK.answers(0, "raise to the same", () -> map.raise(1, 0));
        CHECK.answers(0, "raise to the same", () -> map.raise(1, 7));
        CHECK.answers(7, "the height is another", () -> map.at(8, 0));
        CHECK.answers(10, "that of others is not", () -> map.raise(0, 10));
        CHECK.answers(30, "that of others is not", () -> map.raise(2, 30));
        CHECK.answers(1, "contours go by the new heights", () -> map.contours(8));
    }

    private static void wrongRaises() {
        SpotContours map = Maps.of(0, 0, 10, 8, 0, 20);
        CHECK.fails(Check.INDEX, "spot -1", () -> map.raise(-1, 0));
        CHECK.fails(Check.INDEX, "spot 2 of 2", () -> map.raise(2, 0));
        CHECK.fails(Check.INDEX, "spot 16", () -> map.raise(16, 0));
        CHECK.fails(Check.INDEX, "the greatest int", () -> map.raise(Integer.MAX_VALUE, 0));
        CHECK.fails(Check.ARGUMENT, "height -1", () -> map.raise(0, -1));
        CHECK.fails(Check.ARGUMENT, "height 1000", () -> map.raise(1, 1000));
        CHECK.fails(Check.INDEX, "neither spot nor height", () -> map.raise(2, 1000));
        CHECK.answers(10, "nothing has changed", () -> map.raise(0, 0));
        CHECK.answers(20, "nothing has changed", () -> map.raise(1, 0));
    }

    private static void labelsGo() {
        SpotContours map = Maps.hill();
        CHECK.answers(1, "a label", () -> map.label(40));
        CHECK.fails(Check.ARGUMENT, "a wrong spot", () -> map.spot(10, 10, 0));
        CHECK.fails(Check.INDEX, "a wrong raise", () -> map.raise(5, 0));
        CHECK.fails(Check.ARGUMENT, "a wrong raise", () -> map.raise(0, 1000));
        CHECK.answers(1, "labels stay when it throws", map::labels);
        CHECK.answers(90, "raise to the same", () -> map.raise(4, 90));
        CHECK.answers(0, "labels go", map::labels);
        CHECK.answers(1, "a label", () -> map.label(40));
        CHECK.answers(5, "a spot", () -> map.spot(0, 63, 0));
        CHECK.answers(0, "labels go", map::labels);

        SpotContours full = Maps.grid(0, 600, 200, 800, 400);
        CHECK.answers(4, "labels", () -> full.label(100));
        CHECK.fails(Check.STATE, "a 17th spot", () -> full.spot(1, 1, 1));
        CHECK.answers(4, "labels stay when it throws", full::labels);
    }

    private static void objectsAreApart() {
        SpotContours one = Maps.hill();
        SpotContours other = Maps.hollow();
        one.label(40);
        CHECK.answers(0, "labels of another object", other::labels);
        CHECK.answers(1004, "contour of one", () -> one.contour(40, 0));
        CHECK.answers(2004, "contour of another", () -> other.contour(40, 0));
    }
}
