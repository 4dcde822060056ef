import java.util.ArrayList;

/**
 * Planks of a hull: places on frames joined in rows, strips between rows unrolled by triangles,
 * butts staggered by spans, girths, strips put on boards beside faults, staves that close a circle.
 */
public final class PlankUnroll {
    public static final int NONE = -1;

    private static final int LEAST_SIZE = 2;
    private static final int MOST_SIZE = 8;
    private static final int ROOT_STEPS = 40;
    private static final int MOST_SPAN = 8;
    private static final int MOST_BOARDS = 4;
    private static final int MOST_FAULTS = 8;
    /** No board is longer than 1000, so nothing on one begins at more eighths than these. */
    private static final int MOST_EIGHTHS = 8000;
    private static final int MOST_STAVES = 100000;

    private final int frames;
    private final Row[] rows;
    private final Strip[] strips;
    private final ArrayList<Board> boards;
    /** The two triangles of the cell whose bevel is asked for: kept, so that no call makes new ones. */
    private final Normal near;
    private final Normal far;

    public PlankUnroll(int frames, int rows) {
        this.frames = nearestSize(frames);
        this.rows = new Row[nearestSize(rows)];
        for (int r = 0; r < this.rows.length; r++) {
            this.rows[r] = new Row(this.frames);
        }
        strips = new Strip[this.rows.length - 1];
        for (int s = 0; s < strips.length; s++) {
            strips[s] = new Strip(this.rows[s], this.rows[s + 1], this.frames);
        }
        boards = new ArrayList<>();
        near = new Normal();
        far = new Normal();
    }

    public boolean point(int frame, int row, double x, double y, double z2)
            throws IndexOutOfBoundsException, IllegalArgumentException {
        Place place = placeAt(frame, row);
        if (!within(x, -1000, 1000) || !within(y, -1000, 1000) || !within(z2, -1000, 1000)) {
            throw new IllegalArgumentException("a number of a place is not -1000 .. 1000");
        }
        if (place.x == x && place.y == y && place.z == z2) {
            return false;
        }
        place.x = x;
        place.y = y;
        place.z = z2;
        for (Strip each : strips) {
            each.forget();
        }
        return true;
    }

    public double distance(int frame, int row, int frame2, int row2) throws IndexOutOfBoundsException {
        return apart(placeAt(frame, row), placeAt(frame2, row2));
    }

    public int unroll(int strip) throws IndexOutOfBoundsException, IllegalStateException {
        Strip told = stripAt(strip);
        if (!told.unrolled && !told.layFlat()) {
            throw new IllegalStateException("two corners lie too near for a triangle on them");
        }
        return 2 * (frames - 1);
    }

    public double flat(int strip, int corner, int axis) throws IndexOutOfBoundsException, IllegalStateException {
        Strip told = stripAt(strip);
        if (corner < 0 || corner >= 2 * frames) {
            throw new IndexOutOfBoundsException("no such corner");
        }
        if (axis < 0 || axis > 1) {
            throw new IndexOutOfBoundsException("no such axis");
        }
        needUnrolled(told);
        return axis == 0 ? told.cornerX[corner] : told.cornerY[corner];
    }

    public double stretch(int strip, int cell) throws IndexOutOfBoundsException, IllegalStateException {
        Strip told = stripAt(strip);
        checkCell(cell);
        needUnrolled(told);
        return told.offDiagonal(cell);
    }

    public int worst(int strip) throws IndexOutOfBoundsException, IllegalStateException {
        Strip told = stripAt(strip);
        needUnrolled(told);
        int found = 0;
        double most = sizeOf(told.offDiagonal(0));
        for (int cell = 1; cell < frames - 1; cell++) {
            double size = sizeOf(told.offDiagonal(cell));
            if (size > most) {
                most = size;
                found = cell;
            }
        }
        return found;
    }

    public double bevel(int strip, int cell) throws IndexOutOfBoundsException {
        Strip told = stripAt(strip);
        checkCell(cell);
        Place[] a = told.a.places;
        Place[] b = told.b.places;
        near.cross(a[cell], b[cell], a[cell + 1]);
        far.cross(b[cell], b[cell + 1], a[cell + 1]);
        double nearSize = root(near.times(near));
        double farSize = root(far.times(far));
        if (nearSize == 0 || farSize == 0) {
            return 1;
        }
        return near.times(far) / (nearSize * farSize);
    }

    public double width(int strip, int frame) throws IndexOutOfBoundsException {
        Strip told = stripAt(strip);
        checkFrame(frame);
        return told.across(frame);
    }

    public double girth(int frame) throws IndexOutOfBoundsException {
        checkFrame(frame);
        double sum = 0;
        for (Strip each : strips) {
            sum = sum + each.across(frame);
        }
        return sum;
    }

    public boolean butt(int strip, int frame, boolean on) throws IndexOutOfBoundsException {
        Strip told = stripAt(strip);
        checkFrame(frame);
        boolean isNew = told.butts[frame] != on;
        told.butts[frame] = on;
        return isNew;
    }

    public boolean spans(int n) throws IllegalArgumentException {
        if (n < 1 || n > MOST_SPAN) {
            throw new IllegalArgumentException("a span is not 1 .. 8");
        }
        for (int s = 0; s < strips.length; s++) {
            if (!strips[s].keepsOwn(2 * n)) {
                return false;
            }
            if (s > 0 && !strips[s].keepsBeside(strips[s - 1], n)) {
                return false;
            }
        }
        return true;
    }

    public int board(double w, double h) throws IllegalArgumentException, IllegalStateException {
        if (!within(w, 1, 1000) || !within(h, 1, 1000)) {
            throw new IllegalArgumentException("a side of a board is not 1 .. 1000");
        }
        if (boards.size() >= MOST_BOARDS) {
            throw new IllegalStateException("there are 4 boards");
        }
        boards.add(new Board(w, h));
        return boards.size() - 1;
    }

    public boolean fault(int board, double x, double y, double w, double h)
            throws IndexOutOfBoundsException, IllegalArgumentException {
        Board told = boardAt(board);
        if (!within(x, 0, 1000) || !within(y, 0, 1000)) {
            throw new IllegalArgumentException("a fault does not lie at 0 .. 1000");
        }
        if (!within(w, 0.125, 1000) || !within(h, 0.125, 1000)) {
            throw new IllegalArgumentException("a side of a fault is not 0.125 .. 1000");
        }
        if (told.faults.size() >= MOST_FAULTS) {
            return false;
        }
        told.faults.add(new Box(x, y, w, h));
        return true;
    }

    public int nest(int board, int strip) throws IndexOutOfBoundsException, IllegalStateException {
        Board onto = boardAt(board);
        Strip told = stripAt(strip);
        needUnrolled(told);
        if (told.board != NONE) {
            throw new IllegalStateException("the strip lies on a board");
        }
        int eighths = leastEighths(onto, board, told.box);
        if (eighths != NONE) {
            told.board = board;
            told.eighths = eighths;
        }
        return eighths;
    }

    public int lies(int strip, int what) throws IndexOutOfBoundsException {
        Strip told = stripAt(strip);
        if (what < 0 || what > 1) {
            throw new IndexOutOfBoundsException("neither the board nor its k is asked for");
        }
        return what == 0 ? told.board : told.eighths;
    }

    public int staves(double wide, double diameter) throws IllegalArgumentException {
        checkStaves(wide, diameter);
        double circle = circleOf(diameter);
        // A quotient is rounded: beginning two below it, the first n that is enough is the least.
        int first = Math.max(1, (int) (circle / wide) - 2);
        for (int n = first; n < MOST_STAVES; n++) {
            if (n * wide >= circle) {
                return n;
            }
        }
        return MOST_STAVES;
    }

    public double closes(int n, double wide, double diameter) throws IllegalArgumentException {
        checkStaves(wide, diameter);
        if (n < 1 || n > MOST_STAVES) {
            throw new IllegalArgumentException("a number of staves is not 1 .. 100000");
        }
        return n * wide - circleOf(diameter);
    }

    // Numbers.

    private static int nearestSize(int n) {
        return Math.max(LEAST_SIZE, Math.min(MOST_SIZE, n));
    }

    /** Told by what is asked for, so that a number that is none (NaN) is not within. */
    private static boolean within(double v, double least, double most) {
        return v >= least && v <= most;
    }

    private static double sizeOf(double v) {
        return v < 0 ? -v : v;
    }

    private static double root(double v) {
        if (!(v > 0)) {
            return 0;
        }
        // r begins above 1 and is at the least halved in a step: it never gets to 0.
        double r = 1 + v;
        for (int step = 0; step < ROOT_STEPS; step++) {
            r = (r + v / r) / 2;
        }
        return r;
    }

    private static double apart(Place from, Place to) {
        double dx = to.x - from.x;
        double dy = to.y - from.y;
        double dz = to.z - from.z;
        return root(dx * dx + dy * dy + dz * dz);
    }

    private static double circleOf(double diameter) {
        return diameter * 3.141592653589793;
    }

    // What a call names.

    private void checkFrame(int frame) {
        if (frame < 0 || frame >= frames) {
            throw new IndexOutOfBoundsException("no such frame");
        }
    }

    private void checkCell(int cell) {
        if (cell < 0 || cell >= frames - 1) {
            throw new IndexOutOfBoundsException("no such cell");
        }
    }

    private Place placeAt(int frame, int row) {
        checkFrame(frame);
        if (row < 0 || row >= rows.length) {
            throw new IndexOutOfBoundsException("no such row");
        }
        return rows[row].places[frame];
    }

    private Strip stripAt(int strip) {
        if (strip < 0 || strip >= strips.length) {
            throw new IndexOutOfBoundsException("no such strip");
        }
        return strips[strip];
    }

    private Board boardAt(int board) {
        if (board < 0 || board >= boards.size()) {
            throw new IndexOutOfBoundsException("no such board");
        }
        return boards.get(board);
    }

    private static void needUnrolled(Strip strip) {
        if (!strip.unrolled) {
            throw new IllegalStateException("the strip was not unrolled since a place was told");
        }
    }

    private static void checkStaves(double wide, double diameter) {
        if (!within(wide, 0.125, 1000)) {
            throw new IllegalArgumentException("a stave's width is not 0.125 .. 1000");
        }
        if (!within(diameter, 0, 1000)) {
            throw new IllegalArgumentException("a diameter is not 0 .. 1000");
        }
    }

    // Strips on boards.

    /** The least k with which a box lies free on a board, and moves the box there; else NONE. */
    private int leastEighths(Board onto, int board, Box box) {
        if (box.y + box.h > onto.h) {
            return NONE;
        }
        for (int k = 0; k <= MOST_EIGHTHS; k++) {
            box.x = k / 8.0;
            if (box.x + box.w > onto.w) {
                return NONE;
            }
            Box other = overlapped(onto, board, box);
            if (other == null) {
                return k;
            }
            // Whatever begins before the other one's end overlaps it still: go on behind that end.
            k = Math.max(k, lastEighthsBefore(other.x + other.w));
        }
        return NONE;
    }

    /** A fault of a board, or a strip's box on it, that a box overlaps; null if it overlaps none. */
    private Box overlapped(Board onto, int board, Box box) {
        for (int f = 0; f < onto.faults.size(); f++) {
            Box fault = onto.faults.get(f);
            if (box.overlaps(fault)) {
                return fault;
            }
        }
        for (Strip each : strips) {
            if (each.board == board && box.overlaps(each.box)) {
                return each.box;
            }
        }
        return null;
    }

    private static int lastEighthsBefore(double end) {
        int k = (int) (end * 8);
        return k / 8.0 < end ? k : k - 1;
    }

    private static final class Place {
        double x;
        double y;
        double z;
    }

    private static final class Row {
        final Place[] places;

        Row(int frames) {
            places = new Place[frames];
            for (int f = 0; f < frames; f++) {
                places[f] = new Place();
            }
        }
    }

    /** What stands upright on a triangle: the product of two of its sides. */
    private static final class Normal {
        double x;
        double y;
        double z;

        void cross(Place from, Place first, Place second) {
            double x1 = first.x - from.x;
            double y1 = first.y - from.y;
            double z1 = first.z - from.z;
            double x2 = second.x - from.x;
            double y2 = second.y - from.y;
            double z2 = second.z - from.z;
            x = y1 * z2 - z1 * y2;
            y = z1 * x2 - x1 * z2;
            z = x1 * y2 - y1 * x2;
        }

        double times(Normal other) {
            return x * other.x + y * other.y + z * other.z;
        }
    }

    /** A rectangle along and across a board: a fault, or what a strip takes up. */
    private static final class Box {
        double x;
        double y;
        double w;
        double h;

        Box(double x, double y, double w, double h) {
            this.x = x;
            this.y = y;
            this.w = w;
            this.h = h;
        }

        boolean overlaps(Box other) {
            return x < other.x + other.w && other.x < x + w && y < other.y + other.h && other.y < y + h;
        }
    }

    private static final class Board {
        final double w;
        final double h;
        final ArrayList<Box> faults;

        Board(double w, double h) {
            this.w = w;
            this.h = h;
            faults = new ArrayList<>();
        }
    }

    private static final class Strip {
        final Row a;
        final Row b;
        final double[] cornerX;
        final double[] cornerY;
        final boolean[] butts;
        /** As large as the corners need once the strip is unrolled; where it lies, if it lies on a board. */
        final Box box;
        boolean unrolled;
        int board;
        int eighths;

        Strip(Row a, Row b, int frames) {
            this.a = a;
            this.b = b;
            cornerX = new double[2 * frames];
            cornerY = new double[2 * frames];
            butts = new boolean[frames];
            box = new Box(0, 0, 0, 0);
            board = NONE;
            eighths = NONE;
        }

        void forget() {
            unrolled = false;
            board = NONE;
            eighths = NONE;
        }

        double across(int frame) {
            return apart(a.places[frame], b.places[frame]);
        }

        /** Unrolls the strip: false, and it is not unrolled, if two corners lie too near for that. */
        boolean layFlat() {
            cornerX[0] = 0;
            cornerY[0] = 0;
            cornerX[1] = 0;
            cornerY[1] = across(0);
            for (int f = 1; f < butts.length; f++) {
                double alongA = apart(a.places[f - 1], a.places[f]);
                double diagonal = apart(b.places[f - 1], a.places[f]);
                double alongB = apart(b.places[f - 1], b.places[f]);
                if (!put(2 * f, 2 * f - 2, 2 * f - 1, alongA, diagonal)) {
                    return false;
                }
                if (!put(2 * f + 1, 2 * f, 2 * f - 1, across(f), alongB)) {
                    return false;
                }
            }
            box.w = extent(cornerX);
            box.h = extent(cornerY);
            unrolled = true;
            return true;
        }

        /** Puts a corner r away from corner p and s away from q: false if p and q lie too near. */
        private boolean put(int corner, int p, int q, double r, double s) {
            double vx = cornerX[q] - cornerX[p];
            double vy = cornerY[q] - cornerY[p];
            double c = root(vx * vx + vy * vy);
            if (c < 1.0 / 1024) {
                return false;
            }
            double t = (r * r - s * s + c * c) / (2 * c);
            double h = root(r * r - t * t);
            cornerX[corner] = cornerX[p] + t * vx / c + h * vy / c;
            cornerY[corner] = cornerY[p] + t * vy / c - h * vx / c;
            return true;
        }

        private static double extent(double[] along) {
            double least = 0;
            double greatest = 0;
            // Corner 0 lies at 0, so that neither can begin beyond the corners.
            for (double at : along) {
                least = at < least ? at : least;
                greatest = at > greatest ? at : greatest;
            }
            return greatest - least;
        }

        /** How much longer the other diagonal of a cell is laid flat than between the places. */
        double offDiagonal(int cell) {
            int from = 2 * cell;
            int to = 2 * cell + 3;
            double vx = cornerX[to] - cornerX[from];
            double vy = cornerY[to] - cornerY[from];
            return root(vx * vx + vy * vy) - apart(a.places[cell], b.places[cell + 1]);
        }

        boolean keepsOwn(int span) {
            int last = NONE;
            for (int f = 0; f < butts.length; f++) {
                if (butts[f]) {
                    if (last != NONE && f - last < span) {
                        return false;
                    }
                    last = f;
                }
            }
            return true;
        }

        boolean keepsBeside(Strip other, int span) {
            for (int f = 0; f < butts.length; f++) {
                for (int g = 0; g < other.butts.length; g++) {
                    if (butts[f] && other.butts[g] && Math.abs(f - g) < span) {
                        return false;
                    }
                }
            }
            return true;
        }
    }
}
