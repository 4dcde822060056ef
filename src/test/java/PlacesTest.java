/** Promises 1 to 3: a new object, point, distance. */
public final class PlacesTest {
    private static final int[][] SIZES = {
        {2, 2}, {8, 8}, {3, 7}, {1, 9}, {0, 100}, {-5, 5}, {Integer.MIN_VALUE, Integer.MAX_VALUE}
    };

    public static void main(String[] args) {
        for (int[] size : SIZES) {
            newObject(size[0], size[1]);
            newObject(size[1], size[0]);
        }
        pointAnswers();
        pointThrows();
        pointForgets();
        pointThatChangesNothing();
        distances();
        distanceThrows();
        Due.same("NONE", -1, PlankUnroll.NONE);
        Due.end("PlacesTest");
    }

    private static int nearest(int n) {
        return n < 2 ? 2 : n > 8 ? 8 : n;
    }

    private static void newObject(int frames, int rows) {
        String made = "new PlankUnroll(" + frames + ", " + rows + ") ";
        PlankUnroll x = new PlankUnroll(frames, rows);
        int lastFrame = nearest(frames) - 1;
        int lastRow = nearest(rows) - 1;
        Due.due(made + "distance of the last place", 0.0, () -> x.distance(0, 0, lastFrame, lastRow));
        Due.due(made + "distance of a frame more", Due.INDEX, () -> x.distance(lastFrame + 1, 0, 0, 0));
        Due.due(made + "distance of a row more", Due.INDEX, () -> x.distance(0, lastRow + 1, 0, 0));
        Due.due(made + "girth of the last frame", 0.0, () -> x.girth(lastFrame));
        Due.due(made + "girth of a frame more", Due.INDEX, () -> x.girth(lastFrame + 1));
        Due.due(made + "lies of the last strip", -1, () -> x.lies(lastRow - 1, 0));
        Due.due(made + "lies of a strip more", Due.INDEX, () -> x.lies(lastRow, 0));
        Due.due(made + "spans", true, () -> x.spans(8));
        Due.due(made + "unroll", Due.STATE, () -> x.unroll(0));
        Due.due(made + "fault", Due.INDEX, () -> x.fault(0, 0, 0, 1, 1));
        // Every place is 0, 0, 0 at first.
        for (int f = 0; f <= lastFrame; f++) {
            for (int r = 0; r <= lastRow; r++) {
                int frame = f;
                int row = r;
                Due.due(made + "point " + f + ", " + r, false, () -> x.point(frame, row, 0, 0, 0));
            }
        }
    }

    private static void pointAnswers() {
        PlankUnroll x = new PlankUnroll(3, 3);
        Due.due("-0.0 for 0.0", false, () -> x.point(0, 0, -0.0, -0.0, -0.0));
        Due.due("another x", true, () -> x.point(0, 0, 0.125, 0, 0));
        Due.due("the same", false, () -> x.point(0, 0, 0.125, 0, 0));
        Due.due("another y", true, () -> x.point(0, 0, 0.125, -7, 0));
        Due.due("another z", true, () -> x.point(0, 0, 0.125, -7, 3));
        Due.due("the same again", false, () -> x.point(0, 0, 0.125, -7, 3));
        Due.due("another frame", true, () -> x.point(1, 0, 0.125, -7, 3));
        Due.due("another row", true, () -> x.point(0, 1, 0.125, -7, 3));
        Due.due("the greatest", true, () -> x.point(2, 2, 1000, 1000, 1000));
        Due.due("the least", true, () -> x.point(2, 2, -1000, -1000, -1000));
        Due.due("the smallest", true, () -> x.point(2, 1, Double.MIN_VALUE, 0, 0));
        Due.due("back to 0", true, () -> x.point(2, 1, -0.0, 0, 0));
    }

    private static void pointThrows() {
        PlankUnroll x = new PlankUnroll(3, 4);
        double[] wrong = {
            1000.0000000000001, -1000.0000000000001, Double.NaN, Double.POSITIVE_INFINITY,
            Double.NEGATIVE_INFINITY, Double.MAX_VALUE
        };
        for (double v : wrong) {
            Due.due("x " + v, Due.ARGUMENT, () -> x.point(0, 0, v, 0, 0));
            Due.due("y " + v, Due.ARGUMENT, () -> x.point(0, 0, 0, v, 0));
            Due.due("z " + v, Due.ARGUMENT, () -> x.point(0, 0, 5, 5, v));
            Due.due("no frame and x " + v, Due.INDEX, () -> x.point(3, 0, v, 0, 0));
            Due.due("no row and x " + v, Due.INDEX, () -> x.point(0, 4, v, 0, 0));
        }
        int[] none = {-1, Integer.MIN_VALUE, Integer.MAX_VALUE};
        for (int i : none) {
            Due.due("frame " + i, Due.INDEX, () -> x.point(i, 0, 0, 0, 0));
            Due.due("row " + i, Due.INDEX, () -> x.point(0, i, 0, 0, 0));
        }
        Due.due("frame 3", Due.INDEX, () -> x.point(3, 0, 0, 0, 0));
        Due.due("row 4", Due.INDEX, () -> x.point(0, 4, 0, 0, 0));
        Due.due("the place is as it was", false, () -> x.point(0, 0, 0, 0, 0));
    }

    private static PlankUnroll nestedTwice() {
        PlankUnroll x = new PlankUnroll(2, 4);
        for (int row = 0; row < 4; row++) {
            x.point(0, row, 0, 4 * row, 0);
            x.point(1, row, 3, 4 * row, 0);
        }
        x.board(100, 100);
        x.unroll(0);
        x.unroll(1);
        x.unroll(2);
        x.nest(0, 0);
        x.nest(0, 2);
        return x;
    }

    private static void pointForgets() {
        PlankUnroll x = nestedTwice();
        Due.due("strip 2 lies", 0, () -> x.lies(2, 0));
        Due.due("a place of row 0", true, () -> x.point(0, 0, 0.125, 0, 0));
        for (int s = 0; s < 3; s++) {
            int strip = s;
            Due.due("lies " + s, -1, () -> x.lies(strip, 0));
            Due.due("lies k " + s, -1, () -> x.lies(strip, 1));
            Due.due("flat " + s, Due.STATE, () -> x.flat(strip, 0, 0));
            Due.due("nest " + s, Due.STATE, () -> x.nest(0, strip));
        }
        // The board was emptied.
        Due.due("unroll 1", 2, () -> x.unroll(1));
        Due.due("nest 1", 0, () -> x.nest(0, 1));
    }

    private static void pointThatChangesNothing() {
        PlankUnroll x = nestedTwice();
        Due.due("the place that it is", false, () -> x.point(1, 0, 3, -0.0, 0));
        Due.due("no number", Due.ARGUMENT, () -> x.point(1, 0, 4, 0, Double.NaN));
        Due.due("no frame", Due.INDEX, () -> x.point(2, 0, 4, 0, 0));
        Due.due("strip 0 lies", 0, () -> x.lies(0, 0));
        Due.due("strip 1 is unrolled", 0.0, () -> x.flat(1, 0, 0));
    }

    private static void distances() {
        PlankUnroll x = new PlankUnroll(3, 3);
        x.point(0, 0, 1, 2, 3);
        x.point(1, 2, 4, 6, 15);
        x.point(2, 1, -1000, -1000, -1000);
        x.point(2, 2, 1000, 1000, 1000);
        Due.due("3, 4, 12", 13.0, () -> x.distance(0, 0, 1, 2));
        Due.due("-3, -4, -12", 13.0, () -> x.distance(1, 2, 0, 0));
        Due.due("of one place", 0.0, () -> x.distance(1, 2, 1, 2));
        Due.due("the farthest", 3464.1016151377544, () -> x.distance(2, 1, 2, 2));
        x.point(1, 0, 1, 0, 0);
        x.point(1, 1, 1, 1, 0);
        Due.due("1", 1.0, () -> x.distance(1, 0, 1, 1));
        // 40 steps from 1 + v do not get below 1 / 2 to the 40: a smaller root is not found.
        x.point(0, 1, 1e-100, 0, 0);
        Due.due("very near", Math.pow(0.5, 40), () -> x.distance(0, 1, 0, 2));
        x.point(0, 1, 1e-200, 0, 0);
        Due.due("v is 0", 0.0, () -> x.distance(0, 1, 0, 2));
    }

    private static void distanceThrows() {
        PlankUnroll x = new PlankUnroll(3, 4);
        int[] none = {-1, 4, Integer.MIN_VALUE, Integer.MAX_VALUE};
        for (int i : none) {
            Due.due("frame " + i, Due.INDEX, () -> x.distance(i, 0, 0, 0));
            Due.due("row " + i, Due.INDEX, () -> x.distance(0, i, 0, 0));
            Due.due("frame2 " + i, Due.INDEX, () -> x.distance(0, 0, i, 0));
            Due.due("row2 " + i, Due.INDEX, () -> x.distance(0, 0, 0, i));
        }
        Due.due("frame 3", Due.INDEX, () -> x.distance(3, 0, 0, 0));
        Due.due("frame2 3", Due.INDEX, () -> x.distance(0, 0, 3, 0));
        Due.due("row 3", 0.0, () -> x.distance(0, 3, 0, 3));
    }
}
