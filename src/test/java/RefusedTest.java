/** A call that throws changes nothing; and the 512th call answers as the first one would. */
public final class RefusedTest {
    private static final Check CHECK = new Check();
    private static final int CALLS = 512;

    private interface Refused {
        int on(SpotContours map);
    }

    public static void main(String[] args) {
        CHECK.sentence("A call that throws changes nothing.", RefusedTest::changesNothing);
        CHECK.sentence("A call that throws changes nothing.", RefusedTest::changesNothingWhenEmpty);
        CHECK.sentence("An object is used for at most 512 calls", RefusedTest::lastCall);
        CHECK.finish();
    }

    private static void changesNothing() {
        refuses(Check.ARGUMENT, "spot, no x", map -> map.spot(-1, 1, 1));
        refuses(Check.ARGUMENT, "spot, no y", map -> map.spot(1, 64, 1));
        refuses(Check.ARGUMENT, "spot, no height", map -> map.spot(1, 1, 1000));
        refuses(Check.ARGUMENT, "spot, there is one", map -> map.spot(21, 21, 1));
        refuses(Check.STATE, "spot, there are 16", map -> map.spot(1, 1, 1));
        refuses(Check.INDEX, "raise, no spot", map -> map.raise(16, 1));
        refuses(Check.ARGUMENT, "raise, no height", map -> map.raise(14, 1000));
        refuses(Check.INDEX, "corner, no triangle", map -> map.corner(18, 0));
        refuses(Check.INDEX, "corner, no k", map -> map.corner(0, 3));
        refuses(Check.INDEX, "edge, no spot", map -> map.edge(0, 16));
        refuses(Check.ELEMENT, "at", map -> map.at(64, 0));
        refuses(Check.ARGUMENT, "contours", map -> map.contours(999));
        refuses(Check.ARGUMENT, "contour, no level", map -> map.contour(-1, 0));
        refuses(Check.INDEX, "contour, no contour", map -> map.contour(100, 4));
        refuses(Check.ARGUMENT, "crossing, no level", map -> map.crossing(999, 0, 0));
        refuses(Check.INDEX, "crossing, no crossing", map -> map.crossing(100, 0, -1));
        refuses(Check.ARGUMENT, "place, no level", map -> map.place(999, 0, 0));
        refuses(Check.INDEX, "place, no contour", map -> map.place(100, -1, 0));
        refuses(Check.ARGUMENT, "label, no level", map -> map.label(999));
        refuses(Check.STATE, "label, there would be more than 20", map -> map.label(500));
        refuses(Check.INDEX, "labelOf, no label", map -> map.labelOf(19, 0));
        refuses(Check.ARGUMENT, "labelOf, another what", map -> map.labelOf(18, 3));
    }

    private static void refuses(Class<?> due, String what, Refused call) {
        SpotContours map = Maps.nineteenLabels();
        CHECK.fails(due, what, () -> call.on(map));
        CHECK.same(state(Maps.nineteenLabels()), what + ": the state behind it", state(map));
    }

    private static String state(SpotContours map) {
        StringBuilder text = new StringBuilder(Maps.labels(map)).append(' ').append(Maps.triangles(map)).append(' ')
                .append(Maps.contours(map, 100)).append(' ').append(Maps.contours(map, 500));
        for (int s = 0; s < 16; s++) {
            text.append(' ').append(map.at(21 * (s / 4), 21 * (s % 4))).append(' ').append(map.edge(s, (s + 1) % 16))
                    .append(' ').append(map.edge(s, (s + 3) % 16)).append(' ').append(map.edge(s, (s + 4) % 16));
        }
        return text.toString();
    }

    private static void changesNothingWhenEmpty() {
        SpotContours map = new SpotContours();
        CHECK.fails(Check.ARGUMENT, "spot", () -> map.spot(64, 0, 0));
        CHECK.fails(Check.INDEX, "raise", () -> map.raise(0, 0));
        CHECK.fails(Check.ARGUMENT, "label", () -> map.label(999));
        CHECK.answers(0, "triangles", map::triangles);
        CHECK.answers(0, "labels", map::labels);
        CHECK.answers(0, "the first spot", () -> map.spot(0, 0, 0));
    }

    private static void lastCall() {
        SpotContours map = Maps.hill();
        int made = 5;
        while (made + 5 < CALLS) {
            map.label(40);
            map.label(40);
            map.wipe();
            map.raise(4, 90);
            Check.outcome(() -> map.raise(4, 1000));
            made += 5;
        }
        CHECK.answers(1, "call " + (made + 1), () -> map.label(40));
        CHECK.answers(1, "call " + (made + 2), map::labels);
        SpotContours full = Maps.nineteenLabels();
        for (int call = 21; call < CALLS - 1; call++) {
            Check.outcome(() -> full.label(500));
        }
        CHECK.answers(1, "call 511", () -> full.label(775));
        CHECK.answers(20, "call 512", full::labels);
    }
}
