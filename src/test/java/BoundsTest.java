/**
 * Of each number that a call takes, the last one that is taken and the first one that is not, on both sides. For
 * indices this is asked on hulls of every size, so that no bound can stand for another one.
 */
public final class BoundsTest {
    private interface ByIndex {
        Object of(PlankUnroll x, int i);
    }

    private interface ByNumber {
        Object of(PlankUnroll x, double v);
    }

    private final int frames;
    private final int rows;

    private BoundsTest(int frames, int rows) {
        this.frames = frames;
        this.rows = rows;
    }

    public static void main(String[] args) {
        nearestSizes();
        for (int frames = 2; frames <= 8; frames++) {
            for (int rows = 2; rows <= 8; rows++) {
                BoundsTest test = new BoundsTest(frames, rows);
                test.framesAndRows();
                test.stripsAndCells();
                test.cornersAndAxes();
            }
        }
        for (int boards = 0; boards <= 4; boards++) {
            boardsThatAreTold(boards);
        }
        whatIsAsked();
        numbersOfPlaces();
        placesAtTheEdge();
        spansFrom1To8();
        sidesOfBoards();
        fourBoards();
        numbersOfFaults();
        eightFaultsOnEachBoard();
        numbersOfStaves();
        stavesAtTheEdge();
        Due.end("BoundsTest");
    }

    /** "FRAMES and ROWS are the nearest of 2 .. 8." */
    private static void nearestSizes() {
        int[] told = {Integer.MIN_VALUE, -1, 0, 1, 2, 3, 4, 5, 6, 7, 8, 9, 10, Integer.MAX_VALUE};
        int[] due = {2, 2, 2, 2, 2, 3, 4, 5, 6, 7, 8, 8, 8, 8};
        for (int i = 0; i < told.length; i++) {
            for (int j = 0; j < told.length; j++) {
                String made = "new PlankUnroll(" + told[i] + ", " + told[j] + "): ";
                PlankUnroll x = new PlankUnroll(told[i], told[j]);
                int f = due[i];
                int r = due[j];
                Due.due(made + "the last place", 0.0, () -> x.distance(f - 1, r - 1, 0, 0));
                Due.due(made + "a frame more", Due.INDEX, () -> x.girth(f));
                Due.due(made + "a row more", Due.INDEX, () -> x.distance(0, r, 0, 0));
                Due.due(made + "a strip more", Due.INDEX, () -> x.lies(r - 1, 0));
            }
        }
    }

    /** All strips are unrolled; there are some boards on which each of them fits. */
    private PlankUnroll hull(int boards) {
        PlankUnroll x = Hulls.grid(frames, rows);
        for (int s = 0; s < rows - 1; s++) {
            x.unroll(s);
        }
        for (int b = 0; b < boards; b++) {
            x.board(100, 100);
        }
        return x;
    }

    /** All of 0 .. count - 1 are taken, and no other one; each is asked on a hull of its own. */
    private void indices(String call, int count, ByIndex asked) {
        indices(call, count, 1, asked);
    }

    private void indices(String call, int count, int boards, ByIndex asked) {
        String on = " of " + frames + " frames, " + rows + " rows, " + boards + " boards";
        int[] none = {-1, count, Integer.MIN_VALUE, Integer.MAX_VALUE};
        for (int i : none) {
            PlankUnroll x = hull(boards);
            Due.due(call + i + on, Due.INDEX, () -> asked.of(x, i));
        }
        for (int i = 0; i < count; i++) {
            PlankUnroll x = hull(boards);
            int index = i;
            Due.taken(call + i + on, () -> asked.of(x, index));
        }
    }

    /** "FRAMES 0 .. F - 1 have a place .. in each ROW 0 .. R - 1." */
    private void framesAndRows() {
        int f = frames - 1;
        int r = rows - 1;
        indices("point in frame ", frames, (x, i) -> x.point(i, r, 1, 2, 3));
        indices("point in row ", rows, (x, i) -> x.point(f, i, 1, 2, 3));
        indices("distance, frame ", frames, (x, i) -> x.distance(i, r, f, r));
        indices("distance, row ", rows, (x, i) -> x.distance(f, i, f, r));
        indices("distance, frame2 ", frames, (x, i) -> x.distance(f, r, i, r));
        indices("distance, row2 ", rows, (x, i) -> x.distance(f, r, f, i));
        indices("width at frame ", frames, (x, i) -> x.width(r - 1, i));
        indices("girth of frame ", frames, (x, i) -> x.girth(i));
        indices("butt at frame ", frames, (x, i) -> x.butt(r - 1, i, true));
        indices("no butt at frame ", frames, (x, i) -> x.butt(r - 1, i, false));
    }

    /** "STRIP s (0 .. R - 2)", "CELL f (0 .. F - 2)". */
    private void stripsAndCells() {
        int cells = frames - 1;
        int strips = rows - 1;
        indices("unroll ", strips, (x, i) -> x.unroll(i));
        indices("flat of strip ", strips, (x, i) -> x.flat(i, 2 * frames - 1, 1));
        indices("stretch of strip ", strips, (x, i) -> x.stretch(i, cells - 1));
        indices("worst of strip ", strips, (x, i) -> x.worst(i));
        indices("bevel of strip ", strips, (x, i) -> x.bevel(i, cells - 1));
        indices("width of strip ", strips, (x, i) -> x.width(i, frames - 1));
        indices("butt of strip ", strips, (x, i) -> x.butt(i, frames - 1, true));
        indices("nest of strip ", strips, (x, i) -> x.nest(0, i));
        indices("lies of strip ", strips, (x, i) -> x.lies(i, 1));
        indices("stretch of cell ", cells, (x, i) -> x.stretch(strips - 1, i));
        indices("bevel of cell ", cells, (x, i) -> x.bevel(strips - 1, i));
    }

    /** "Its CORNERS are 2 f (a of frame f) and 2 f + 1 (b)", "on an axis (0 x, 1 y)". */
    private void cornersAndAxes() {
        indices("flat of corner ", 2 * frames, (x, i) -> x.flat(rows - 2, i, 1));
        indices("flat on axis ", 2, (x, i) -> x.flat(rows - 2, 2 * frames - 1, i));
    }

    /** "BOARDS 0 .. 3 (as they are told)": one that is not told yet is none. */
    private static void boardsThatAreTold(int boards) {
        BoundsTest test = new BoundsTest(2, 3);
        test.indices("fault of board ", boards, boards, (x, i) -> x.fault(i, 1, 1, 1, 1));
        test.indices("nest on board ", boards, boards, (x, i) -> x.nest(i, 1));
    }

    /** "The board on which a strip lies (what = 0; NONE), its k (1; NONE). IndexOutOfBoundsException: also of what." */
    private static void whatIsAsked() {
        BoundsTest test = new BoundsTest(3, 3);
        test.indices("lies, what ", 2, (x, i) -> x.lies(1, i));
    }

    /** The least and the most are taken, and no number beyond them; each is asked on an object of its own. */
    private static void numbers(String call, double least, double most, ByNumber asked) {
        double[] beyond = {
            Math.nextDown(least), Math.nextUp(most), Double.NaN, Double.NEGATIVE_INFINITY, Double.POSITIVE_INFINITY,
            -Double.MAX_VALUE, Double.MAX_VALUE
        };
        for (double v : beyond) {
            PlankUnroll x = onWhichNumbersAreAsked();
            Due.due(call + v, Due.ARGUMENT, () -> asked.of(x, v));
        }
        double[] within = {least, Math.nextUp(least), (least + most) / 2, Math.nextDown(most), most};
        for (double v : within) {
            PlankUnroll x = onWhichNumbersAreAsked();
            Due.taken(call + v, () -> asked.of(x, v));
        }
    }

    private static PlankUnroll onWhichNumbersAreAsked() {
        PlankUnroll x = new PlankUnroll(3, 3);
        x.board(10, 10);
        return x;
    }

    /** "IllegalArgumentException: a number is not -1000 .. 1000." */
    private static void numbersOfPlaces() {
        numbers("point, x ", -1000, 1000, (x, v) -> x.point(2, 2, v, 0, 0));
        numbers("point, y ", -1000, 1000, (x, v) -> x.point(2, 2, 0, v, 0));
        numbers("point, z ", -1000, 1000, (x, v) -> x.point(2, 2, 0, 0, v));
        numbers("point, x beside others ", -1000, 1000, (x, v) -> x.point(2, 2, v, 1000, -1000));
        numbers("point, y beside others ", -1000, 1000, (x, v) -> x.point(2, 2, -1000, v, 1000));
        numbers("point, z beside others ", -1000, 1000, (x, v) -> x.point(2, 2, 1000, -1000, v));
    }

    private static void placesAtTheEdge() {
        double[] edges = {-1000, 1000};
        for (double v : edges) {
            PlankUnroll x = new PlankUnroll(2, 2);
            Due.due("x " + v + " is another one", true, () -> x.point(0, 0, v, 0, 0));
            Due.due("y " + v + " is another one", true, () -> x.point(0, 1, 0, v, 0));
            Due.due("z " + v + " is another one", true, () -> x.point(1, 0, 0, 0, v));
            Due.due("the place at x " + v, 1000.0, () -> x.distance(0, 0, 1, 1));
            Due.due("the place at y " + v, 1000.0, () -> x.distance(0, 1, 1, 1));
            Due.due("the place at z " + v, 1000.0, () -> x.distance(1, 0, 1, 1));
            Due.due("x " + v + " is the same", false, () -> x.point(0, 0, v, -0.0, 0));
        }
    }

    /** "IllegalArgumentException: n is not 1 .. 8." */
    private static void spansFrom1To8() {
        PlankUnroll x = new PlankUnroll(8, 8);
        int[] beyond = {0, 9, -1, -8, Integer.MIN_VALUE, Integer.MAX_VALUE};
        for (int n : beyond) {
            Due.due("spans " + n, Due.ARGUMENT, () -> x.spans(n));
        }
        for (int n = 1; n <= 8; n++) {
            int span = n;
            Due.due("spans " + n, true, () -> x.spans(span));
        }
    }

    /** "IllegalArgumentException: w or h is not 1 .. 1000". */
    private static void sidesOfBoards() {
        numbers("board, w ", 1, 1000, (x, v) -> x.board(v, 1));
        numbers("board, h ", 1, 1000, (x, v) -> x.board(1, v));
        numbers("board, w beside 1000 ", 1, 1000, (x, v) -> x.board(v, 1000));
        numbers("board, h beside 1000 ", 1, 1000, (x, v) -> x.board(1000, v));
    }

    /** "BOARDS 0 .. 3", "IllegalStateException: there are 4." */
    private static void fourBoards() {
        PlankUnroll x = new PlankUnroll(2, 2);
        for (int b = 0; b < 4; b++) {
            int due = b;
            Due.due("no board " + b + " yet", Due.INDEX, () -> x.fault(due, 0, 0, 1, 1));
            Due.due("board " + b, due, () -> x.board(1, 1));
            Due.due("board " + b + " is there", true, () -> x.fault(due, 0, 0, 1, 1));
        }
        Due.due("a fifth board", Due.STATE, () -> x.board(1, 1));
        Due.due("no board 4", Due.INDEX, () -> x.fault(4, 0, 0, 1, 1));
        Due.due("a fifth board again", Due.STATE, () -> x.board(1000, 1000));
    }

    /** "IllegalArgumentException: x or y is not 0 .. 1000, or w or h not 0.125 .. 1000." */
    private static void numbersOfFaults() {
        numbers("fault, x ", 0, 1000, (x, v) -> x.fault(0, v, 1, 1, 1));
        numbers("fault, y ", 0, 1000, (x, v) -> x.fault(0, 1, v, 1, 1));
        numbers("fault, w ", 0.125, 1000, (x, v) -> x.fault(0, 1, 1, v, 1));
        numbers("fault, h ", 0.125, 1000, (x, v) -> x.fault(0, 1, 1, 1, v));
        PlankUnroll x = onWhichNumbersAreAsked();
        Due.due("-0.0 is 0", true, () -> x.fault(0, -0.0, -0.0, 1, 1));
        Due.due("the least in all", true, () -> x.fault(0, 0, 0, 0.125, 0.125));
        Due.due("the most in all", true, () -> x.fault(0, 1000, 1000, 1000, 1000));
    }

    /** "BOARDS .. have FAULTS, 8 at most each", "A FAULT more: whether there was room." */
    private static void eightFaultsOnEachBoard() {
        PlankUnroll x = new PlankUnroll(2, 2);
        for (int b = 0; b < 4; b++) {
            x.board(10, 10);
        }
        for (int b = 0; b < 4; b++) {
            int board = b;
            for (int n = 1; n <= 8; n++) {
                Due.due("fault " + n + " of board " + b, true, () -> x.fault(board, 1, 1, 1, 1));
            }
            Due.due("a ninth of board " + b, false, () -> x.fault(board, 1, 1, 1, 1));
            Due.due("another ninth of board " + b, false, () -> x.fault(board, 9, 9, 1, 1));
        }
    }

    /** "wide is not 0.125 .. 1000, or diameter not 0 .. 1000", "or n is not 1 .. 100000". */
    private static void numbersOfStaves() {
        numbers("staves, wide ", 0.125, 1000, (x, v) -> x.staves(v, 1000));
        numbers("staves, wide round nothing ", 0.125, 1000, (x, v) -> x.staves(v, 0));
        numbers("staves, diameter ", 0, 1000, (x, v) -> x.staves(0.125, v));
        numbers("closes, wide ", 0.125, 1000, (x, v) -> x.closes(1, v, 1000));
        numbers("closes, diameter ", 0, 1000, (x, v) -> x.closes(100000, 1000, v));
        PlankUnroll x = new PlankUnroll(2, 2);
        int[] beyond = {0, 100001, -1, Integer.MIN_VALUE, Integer.MAX_VALUE};
        for (int n : beyond) {
            Due.due("closes " + n, Due.ARGUMENT, () -> x.closes(n, 1, 1));
        }
        Due.due("closes 1", 1.0, () -> x.closes(1, 1, 0));
        Due.due("closes 100000", 100000.0, () -> x.closes(100000, 1, 0));
        Due.due("the diameter -0.0 is 0", 1, () -> x.staves(0.125, -0.0));
        Due.due("closes round -0.0", 0.125, () -> x.closes(1, 0.125, -0.0));
    }

    /** "the least n (1, 2, ..) so that n * wide is not below diameter * 3.141592653589793". */
    private static void stavesAtTheEdge() {
        PlankUnroll x = new PlankUnroll(2, 2);
        double circle = 7 * 3.141592653589793;
        Due.due("no circle takes one", 1, () -> x.staves(0.125, 0));
        Due.due("the least circle takes one", 1, () -> x.staves(0.125, Double.MIN_VALUE));
        Due.due("one that is just as wide", 1, () -> x.staves(circle, 7));
        Due.due("one that is not quite as wide", 2, () -> x.staves(Math.nextDown(circle), 7));
        Due.due("the widest of the largest", 4, () -> x.staves(1000, 1000));
        Due.due("the most", 25133, () -> x.staves(0.125, 1000));
        for (int n = 2; n <= 25; n++) {
            // The narrowest staves of which n close the circle, found from both sides.
            double wide = circle / n;
            while (n * wide >= circle) {
                wide = Math.nextDown(wide);
            }
            while (n * wide < circle) {
                wide = Math.nextUp(wide);
            }
            double least = wide;
            int due = n;
            Due.due(n + " just close it", due, () -> x.staves(least, 7));
            Due.due(n + " do not quite", due + 1, () -> x.staves(Math.nextDown(least), 7));
            Due.due("what " + n + " are more", due * least - circle, () -> x.closes(due, least, 7));
            Due.same("that is not below 0", true, x.closes(n, least, 7) >= 0);
            Due.same("and the next narrower ones are below", true, x.closes(n, Math.nextDown(least), 7) < 0);
        }
    }
}
