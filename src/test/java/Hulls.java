/** Hulls that several tests ask. */
final class Hulls {
    private Hulls() {
    }

    /** Frames 3 apart and rows 4 apart in one plane; no strip is unrolled. */
    static PlankUnroll grid(int frames, int rows) {
        PlankUnroll x = new PlankUnroll(frames, rows);
        for (int f = 0; f < frames; f++) {
            for (int row = 0; row < rows; row++) {
                x.point(f, row, 3 * f, 4 * row, 0);
            }
        }
        return x;
    }

    /** Two frames; all strips are unrolled, 0.5 long to the last bit and about 1 high. */
    static PlankUnroll strips(int rows) {
        PlankUnroll x = new PlankUnroll(2, rows);
        for (int row = 0; row < rows; row++) {
            x.point(0, row, 0, row, 0);
            x.point(1, row, 0.5, row, 0);
        }
        for (int s = 0; s < rows - 1; s++) {
            x.unroll(s);
        }
        return x;
    }

    /** How much an unrolled strip takes up along an axis. */
    static double extent(PlankUnroll x, int strip, int corners, int axis) {
        double least = x.flat(strip, 0, axis);
        double greatest = least;
        for (int c = 1; c < corners; c++) {
            least = Math.min(least, x.flat(strip, c, axis));
            greatest = Math.max(greatest, x.flat(strip, c, axis));
        }
        return greatest - least;
    }

    /** ROOT of the document, with another number of steps where a test shows that the number counts. */
    static double root(double v, int steps) {
        if (v <= 0) {
            return 0;
        }
        double r = 1 + v;
        for (int step = 0; step < steps; step++) {
            r = (r + v / r) / 2;
        }
        return r;
    }

    static double root(double v) {
        return root(v, 40);
    }
}
