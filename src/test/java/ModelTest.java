import java.util.Random;

/** Runs of 512 calls each, the same ones every time, on a map and on the model. */
public final class ModelTest {
    private static final int RUNS = 400;
    private static final int CALLS = 512;
    /** Spots on one circle round 30, 30. */
    private static final int[][] CIRCLE = {{55, 30}, {54, 37}, {50, 45}, {45, 50}, {37, 54}, {30, 55}, {23, 54},
        {15, 50}, {10, 45}, {6, 37}, {5, 30}, {6, 23}, {10, 15}, {15, 10}, {23, 6}, {30, 5}, {37, 6}, {45, 10},
        {50, 15}, {54, 23}};

    private final Check check;
    private final Random random;
    private final int kind;
    private final SpotContours map = new SpotContours();
    private final Model model = new Model();
    private final int[] levels;

    private ModelTest(Check check, int run) {
        this.check = check;
        random = new Random(run);
        kind = run % 6;
        // In most runs a few levels only, so that calls speak of the same contours.
        levels = new int[run % 4 == 0 ? 60 : 4];
        for (int i = 0; i < levels.length; i++) {
            levels[i] = random.nextInt(heights());
        }
    }

    public static void main(String[] args) {
        Check check = new Check();
        for (int run = 0; run < RUNS; run++) {
            new ModelTest(check, run).go(run);
        }
        check.finish();
    }

    private void go(int run) {
        for (int i = 0; i < CALLS; i++) {
            int[] a = new int[4];
            a[0] = i < 20 && run % 3 > 0 ? 0 : random.nextInt(15);
            a[0] = i > 300 && letsLabelsGo(a[0]) && random.nextInt(20) > 0 ? 10 : a[0];
            fillArguments(a);
            String what = "run " + run + ", call " + i + ": " + name(a);
            check.same(Check.outcome(() -> onModel(a)), what, Check.outcome(() -> onMap(a)));
        }
        check.same(String.valueOf(model.doubleHullArea()), "run " + run + ": the area of all triangles",
                String.valueOf(model.doubleArea()));
    }

    /** Such calls are rare in the end of a run, so that there come to be 20 labels. */
    private static boolean letsLabelsGo(int call) {
        return call == 0 || call == 1 || call == 13;
    }

    private int heights() {
        return kind % 2 == 0 ? 999 : 3;
    }

    private void fillArguments(int[] a) {
        switch (a[0]) {
            case 0 -> spotArguments(a);
            case 1 -> set(a, number(16), number(heights() + 1), 0);
            case 3 -> set(a, number(28), number(3), 0);
            case 4 -> set(a, number(16), number(16), 0);
            case 5 -> set(a, number(64), number(64), 0);
            case 12, 14 -> set(a, number(20), number(3), 0);
            default -> set(a, level(), number(3), number(8));
        }
    }

    private static void set(int[] a, int first, int second, int third) {
        a[1] = first;
        a[2] = second;
        a[3] = third;
    }

    private void spotArguments(int[] a) {
        int height = number(heights() + 1);
        int[] onCircle = CIRCLE[random.nextInt(CIRCLE.length)];
        switch (kind) {
            case 0 -> set(a, onCircle[0], onCircle[1], height);
            case 1 -> set(a, 21 * random.nextInt(4), 21 * random.nextInt(4), height);
            case 2 -> set(a, 7 * random.nextInt(8), 7 * random.nextInt(8), height);
            case 3 -> set(a, 30 + random.nextInt(6), 30 + random.nextInt(6), height);
            default -> set(a, number(64), number(64), height);
        }
    }

    /** Mostly 0 .. below - 1, at times just beyond, rarely far off. */
    private int number(int below) {
        int which = random.nextInt(60);
        if (which == 0) {
            return random.nextInt();
        }
        if (which == 1) {
            return -1;
        }
        return which == 2 ? below : random.nextInt(below);
    }

    private int level() {
        int which = random.nextInt(40);
        if (which == 0) {
            return 999;
        }
        return which == 1 ? random.nextInt() : levels[random.nextInt(levels.length)];
    }

    private static String name(int[] a) {
        String[] names = {"spot", "raise", "triangles", "corner", "edge", "at", "contours", "contour", "crossing",
            "place", "label", "labels", "labelOf", "wipe", "labelOf"};
        return names[a[0]] + " " + a[1] + " " + a[2] + " " + a[3];
    }

    private int onMap(int[] a) {
        return switch (a[0]) {
            case 0 -> map.spot(a[1], a[2], a[3]);
            case 1 -> map.raise(a[1], a[2]);
            case 2 -> map.triangles();
            case 3 -> map.corner(a[1], a[2]);
            case 4 -> map.edge(a[1], a[2]);
            case 5 -> map.at(a[1], a[2]);
            case 6 -> map.contours(a[1]);
            case 7 -> map.contour(a[1], a[2]);
            case 8 -> map.crossing(a[1], a[2], a[3]);
            case 9 -> map.place(a[1], a[2], a[3]);
            case 10 -> map.label(a[1]);
            case 11 -> map.labels();
            case 13 -> map.wipe();
            default -> map.labelOf(a[1], a[2]);
        };
    }

    private int onModel(int[] a) {
        return switch (a[0]) {
            case 0 -> model.spot(a[1], a[2], a[3]);
            case 1 -> model.raise(a[1], a[2]);
            case 2 -> model.triangles();
            case 3 -> model.corner(a[1], a[2]);
            case 4 -> model.edge(a[1], a[2]);
            case 5 -> model.at(a[1], a[2]);
            case 6 -> model.contours(a[1]);
            case 7 -> model.contour(a[1], a[2]);
            case 8 -> model.crossing(a[1], a[2], a[3]);
            case 9 -> model.place(a[1], a[2], a[3]);
            case 10 -> model.label(a[1]);
            case 11 -> model.labels();
            case 13 -> model.wipe();
            default -> model.labelOf(a[1], a[2]);
        };
    }
}
