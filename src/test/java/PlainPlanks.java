/**
 * What the document says, written down in its plainest form to hold long runs of calls against: arrays alone,
 * everything reckoned anew for each call, every k and every n tried in turn. An answer is what the call answers or
 * the class of the exception that it throws.
 */
final class PlainPlanks {
    private final int frames;
    private final int rows;
    private final double[][][] at;
    private final boolean[][] butts;
    private final boolean[] unrolled;
    private final int[] liesOn;
    private final int[] liesAt;
    private final double[][] boards = new double[4][];
    private final double[][][] faults = new double[4][8][];
    private int boardCount;

    PlainPlanks(int frames, int rows) {
        this.frames = frames < 2 ? 2 : frames > 8 ? 8 : frames;
        this.rows = rows < 2 ? 2 : rows > 8 ? 8 : rows;
        at = new double[this.frames][this.rows][3];
        butts = new boolean[this.rows - 1][this.frames];
        unrolled = new boolean[this.rows - 1];
        liesOn = new int[this.rows - 1];
        liesAt = new int[this.rows - 1];
        forget();
    }

    private void forget() {
        for (int s = 0; s < rows - 1; s++) {
            unrolled[s] = false;
            liesOn[s] = -1;
            liesAt[s] = -1;
        }
    }

    private static boolean in(int i, int n) {
        return 0 <= i && i < n;
    }

    private static boolean from(double least, double v, double most) {
        return least <= v && v <= most;
    }

    private static double root(double v) {
        double r = 1 + v;
        for (int i = 0; v > 0 && i < 40; i++) {
            r = (r + v / r) / 2;
        }
        return v > 0 ? r : 0;
    }

    private static double distance(double[] p, double[] q) {
        double dx = q[0] - p[0];
        double dy = q[1] - p[1];
        double dz = q[2] - p[2];
        return root(dx * dx + dy * dy + dz * dz);
    }

    private static double[] product(double[] from, double[] p, double[] q) {
        double[] u = {p[0] - from[0], p[1] - from[1], p[2] - from[2]};
        double[] v = {q[0] - from[0], q[1] - from[1], q[2] - from[2]};
        double[] product = new double[3];
        for (int i = 0; i < 3; i++) {
            int j = (i + 1) % 3;
            int k = (i + 2) % 3;
            product[i] = u[j] * v[k] - u[k] * v[j];
        }
        return product;
    }

    private static double dot(double[] u, double[] v) {
        double sum = 0;
        for (int i = 0; i < 3; i++) {
            sum += u[i] * v[i];
        }
        return sum;
    }

    /** Corners as pairs of x and y; null if the strip can't be unrolled. */
    private double[][] corners(int strip) {
        double[][] corners = new double[2 * frames][];
        corners[0] = new double[] {0, 0};
        corners[1] = new double[] {0, distance(at[0][strip], at[0][strip + 1])};
        for (int corner = 2; corner < 2 * frames; corner++) {
            int f = corner / 2;
            double[] here = at[f][corner % 2 == 0 ? strip : strip + 1];
            double[] first = corner % 2 == 0 ? at[f - 1][strip] : at[f][strip];
            double r = distance(first, here);
            double s = distance(at[f - 1][strip + 1], here);
            double[] p = corners[corner % 2 == 0 ? 2 * f - 2 : 2 * f];
            double[] q = corners[2 * f - 1];
            double vx = q[0] - p[0];
            double vy = q[1] - p[1];
            double c = root(vx * vx + vy * vy);
            if (c < 0.0009765625) {
                return null;
            }
            double t = (r * r - s * s + c * c) / (2 * c);
            double h = root(r * r - t * t);
            corners[corner] = new double[] {p[0] + t * vx / c + h * vy / c, p[1] + t * vy / c - h * vx / c};
        }
        return corners;
    }

    private double off(int strip, int cell) {
        double[][] corners = corners(strip);
        double vx = corners[2 * cell + 3][0] - corners[2 * cell][0];
        double vy = corners[2 * cell + 3][1] - corners[2 * cell][1];
        return root(vx * vx + vy * vy) - distance(at[cell][strip], at[cell + 1][strip + 1]);
    }

    private double extent(int strip, int axis) {
        double least = Double.POSITIVE_INFINITY;
        double greatest = Double.NEGATIVE_INFINITY;
        for (double[] corner : corners(strip)) {
            least = Math.min(least, corner[axis]);
            greatest = Math.max(greatest, corner[axis]);
        }
        return greatest - least;
    }

    Object point(int frame, int row, double x, double y, double z) {
        if (!in(frame, frames) || !in(row, rows)) {
            return Due.INDEX;
        }
        if (!from(-1000, x, 1000) || !from(-1000, y, 1000) || !from(-1000, z, 1000)) {
            return Due.ARGUMENT;
        }
        double[] place = at[frame][row];
        boolean another = place[0] != x || place[1] != y || place[2] != z;
        at[frame][row] = new double[] {x, y, z};
        if (another) {
            forget();
        }
        return another;
    }

    Object distance(int frame, int row, int frame2, int row2) {
        if (!in(frame, frames) || !in(row, rows) || !in(frame2, frames) || !in(row2, rows)) {
            return Due.INDEX;
        }
        return distance(at[frame][row], at[frame2][row2]);
    }

    Object unroll(int strip) {
        if (!in(strip, rows - 1)) {
            return Due.INDEX;
        }
        if (corners(strip) == null) {
            return Due.STATE;
        }
        unrolled[strip] = true;
        return 2 * frames - 2;
    }

    Object flat(int strip, int corner, int axis) {
        if (!in(strip, rows - 1) || !in(corner, 2 * frames) || !in(axis, 2)) {
            return Due.INDEX;
        }
        return unrolled[strip] ? corners(strip)[corner][axis] : Due.STATE;
    }

    Object stretch(int strip, int cell) {
        if (!in(strip, rows - 1) || !in(cell, frames - 1)) {
            return Due.INDEX;
        }
        return unrolled[strip] ? off(strip, cell) : Due.STATE;
    }

    Object worst(int strip) {
        if (!in(strip, rows - 1)) {
            return Due.INDEX;
        }
        if (!unrolled[strip]) {
            return Due.STATE;
        }
        int worst = 0;
        for (int cell = 1; cell < frames - 1; cell++) {
            worst = Math.abs(off(strip, cell)) > Math.abs(off(strip, worst)) ? cell : worst;
        }
        return worst;
    }

    Object bevel(int strip, int cell) {
        if (!in(strip, rows - 1) || !in(cell, frames - 1)) {
            return Due.INDEX;
        }
        double[] u = product(at[cell][strip], at[cell][strip + 1], at[cell + 1][strip]);
        double[] v = product(at[cell][strip + 1], at[cell + 1][strip + 1], at[cell + 1][strip]);
        double one = root(dot(u, u));
        double other = root(dot(v, v));
        return one == 0 || other == 0 ? 1.0 : dot(u, v) / (one * other);
    }

    Object width(int strip, int frame) {
        if (!in(strip, rows - 1) || !in(frame, frames)) {
            return Due.INDEX;
        }
        return distance(at[frame][strip], at[frame][strip + 1]);
    }

    Object girth(int frame) {
        if (!in(frame, frames)) {
            return Due.INDEX;
        }
        double sum = 0;
        for (int s = 0; s < rows - 1; s++) {
            sum += distance(at[frame][s], at[frame][s + 1]);
        }
        return sum;
    }

    Object butt(int strip, int frame, boolean on) {
        if (!in(strip, rows - 1) || !in(frame, frames)) {
            return Due.INDEX;
        }
        boolean was = butts[strip][frame];
        butts[strip][frame] = on;
        return was != on;
    }

    Object spans(int n) {
        if (n < 1 || n > 8) {
            return Due.ARGUMENT;
        }
        boolean keeps = true;
        for (int i = 0; i < (rows - 1) * frames; i++) {
            for (int j = 0; j < (rows - 1) * frames; j++) {
                int strips = Math.abs(i / frames - j / frames);
                int apart = Math.abs(i % frames - j % frames);
                boolean both = i != j && butts[i / frames][i % frames] && butts[j / frames][j % frames];
                keeps &= !(both && (strips == 0 && apart < 2 * n || strips == 1 && apart < n));
            }
        }
        return keeps;
    }

    Object board(double w, double h) {
        if (!from(1, w, 1000) || !from(1, h, 1000)) {
            return Due.ARGUMENT;
        }
        if (boardCount == 4) {
            return Due.STATE;
        }
        boards[boardCount] = new double[] {w, h};
        return boardCount++;
    }

    Object fault(int board, double x, double y, double w, double h) {
        if (!in(board, boardCount)) {
            return Due.INDEX;
        }
        if (!from(0, x, 1000) || !from(0, y, 1000) || !from(0.125, w, 1000) || !from(0.125, h, 1000)) {
            return Due.ARGUMENT;
        }
        for (int n = 0; n < 8; n++) {
            if (faults[board][n] == null) {
                faults[board][n] = new double[] {x, y, w, h};
                return true;
            }
        }
        return false;
    }

    private static boolean overlap(double[] p, double[] q) {
        boolean along = p[0] < q[0] + q[2] && q[0] < p[0] + p[2];
        return along && p[1] < q[1] + q[3] && q[1] < p[1] + p[3];
    }

    private boolean free(int board, double[] box) {
        for (double[] fault : faults[board]) {
            if (fault != null && overlap(fault, box)) {
                return false;
            }
        }
        for (int s = 0; s < rows - 1; s++) {
            if (liesOn[s] == board && overlap(new double[] {liesAt[s] / 8.0, 0, extent(s, 0), extent(s, 1)}, box)) {
                return false;
            }
        }
        return true;
    }

    Object nest(int board, int strip) {
        if (!in(board, boardCount) || !in(strip, rows - 1)) {
            return Due.INDEX;
        }
        if (!unrolled[strip] || liesOn[strip] != -1) {
            return Due.STATE;
        }
        double w = extent(strip, 0);
        double h = extent(strip, 1);
        if (h > boards[board][1]) {
            return -1;
        }
        for (int k = 0; k / 8.0 + w <= boards[board][0]; k++) {
            if (free(board, new double[] {k / 8.0, 0, w, h})) {
                liesOn[strip] = board;
                liesAt[strip] = k;
                return k;
            }
        }
        return -1;
    }

    Object lies(int strip, int what) {
        if (!in(strip, rows - 1) || !in(what, 2)) {
            return Due.INDEX;
        }
        return what == 0 ? liesOn[strip] : liesAt[strip];
    }

    Object staves(double wide, double diameter) {
        if (!from(0.125, wide, 1000) || !from(0, diameter, 1000)) {
            return Due.ARGUMENT;
        }
        int n = 1;
        while (n * wide < diameter * 3.141592653589793) {
            n++;
        }
        return n;
    }

    Object closes(int n, double wide, double diameter) {
        if (!from(0.125, wide, 1000) || !from(0, diameter, 1000) || n < 1 || n > 100000) {
            return Due.ARGUMENT;
        }
        return n * wide - diameter * 3.141592653589793;
    }
}
