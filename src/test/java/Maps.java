/** Maps that several tests use. */
final class Maps {
    private Maps() {
    }

    /** Spots in order, three numbers each: x, y, height. */
    static SpotContours of(int... numbers) {
        SpotContours map = new SpotContours();
        for (int i = 0; i < numbers.length; i += 3) {
            map.spot(numbers[i], numbers[i + 1], numbers[i + 2]);
        }
        return map;
    }

    /** A hill of 90 amid four low spots at the corners of a square. */
    static SpotContours hill() {
        return of(10, 10, 0, 30, 10, 0, 30, 30, 0, 10, 30, 0, 20, 20, 90);
    }

    /** The same with the heights turned over. */
    static SpotContours hollow() {
        return of(10, 10, 90, 30, 10, 90, 30, 30, 90, 10, 30, 90, 20, 20, 0);
    }

    /** All 16 spots, in rows of four. */
    static SpotContours grid(int... heights) {
        SpotContours map = new SpotContours();
        for (int i = 0; i < 16; i++) {
            map.spot(21 * (i / 4), 21 * (i % 4), heights[i % heights.length]);
        }
        return map;
    }

    /** Spots in a line, with the heights in turn, or all with 0. */
    static SpotContours line(int count, int... heights) {
        SpotContours map = new SpotContours();
        for (int i = 0; i < count; i++) {
            map.spot(4 * i, 2 * i, heights.length == 0 ? 0 : heights[i % heights.length]);
        }
        return map;
    }

    /** A grid with 19 labels. */
    static SpotContours nineteenLabels() {
        SpotContours map = grid(0, 600, 200, 800, 400);
        for (int level = 50; level <= 250; level += 50) {
            map.label(level);
        }
        return map;
    }

    /** The same with one more. */
    static SpotContours twentyLabels() {
        SpotContours map = nineteenLabels();
        map.label(775);
        return map;
    }

    /** All 16 spots with as many triangles as there can be: three spots are at the border. */
    static SpotContours mostTriangles() {
        SpotContours map = of(0, 0, 0, 63, 0, 0, 31, 63, 0);
        for (int i = 0; i < 13; i++) {
            map.spot(25 + i * 5 % 13, 10 + i * 3, 0);
        }
        return map;
    }

    /** The triangles as text: "0,1,3 1,2,3". */
    static String triangles(SpotContours map) {
        StringBuilder text = new StringBuilder();
        for (int i = 0; i < map.triangles(); i++) {
            text.append(i == 0 ? "" : " ").append(map.corner(i, 0)).append(',').append(map.corner(i, 1))
                    .append(',').append(map.corner(i, 2));
        }
        return text.toString();
    }

    /** The contours of a level as text: "1004: 0-4 1-4 2-4 3-4; ..". */
    static String contours(SpotContours map, int level) {
        StringBuilder text = new StringBuilder();
        for (int k = 0; k < map.contours(level); k++) {
            int answer = map.contour(level, k);
            text.append(k == 0 ? "" : "; ").append(answer).append(':');
            for (int j = 0; j < answer % 1000; j++) {
                int crossing = map.crossing(level, k, j);
                text.append(' ').append(crossing / 16).append('-').append(crossing % 16);
            }
        }
        return text.toString();
    }

    /** The labels as text, level@x,y each. */
    static String labels(SpotContours map) {
        StringBuilder text = new StringBuilder();
        for (int i = 0; i < map.labels(); i++) {
            text.append(i == 0 ? "" : " ").append(map.labelOf(i, 0)).append('@').append(map.labelOf(i, 1))
                    .append(',').append(map.labelOf(i, 2));
        }
        return text.toString();
    }
}
