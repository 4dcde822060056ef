/**
 * "Of several exceptions the one named first is thrown": calls that are wrong in several ways at once. An exception is
 * the first one of its call where all that it stands for is looked at before anything that a later one stands for.
 */
public final class OrderTest {
    private static final double[] NO_NUMBER = {Double.NaN, -1000.5, 1000.5, Double.POSITIVE_INFINITY};

    public static void main(String[] args) {
        pointOfNoPlace();
        unrollOfNoStrip();
        flatOfNoCorner();
        stretchOfNoCell();
        worstOfNoStrip();
        boardOfNoSideBeyondFour();
        faultOfNoBoard();
        faultOfNoSizeWithoutRoom();
        nestOfNoBoardOrStrip();
        Due.end("OrderTest");
    }

    /** Promise 2: IndexOutOfBoundsException; IllegalArgumentException. */
    private static void pointOfNoPlace() {
        PlankUnroll x = new PlankUnroll(3, 5);
        for (double v : NO_NUMBER) {
            for (int i = 0; i < 3; i++) {
                double px = i == 0 ? v : 0;
                double py = i == 1 ? v : 0;
                double pz = i == 2 ? v : 0;
                Due.due("no frame -1, no number " + v, Due.INDEX, () -> x.point(-1, 0, px, py, pz));
                Due.due("no frame 3, no number " + v, Due.INDEX, () -> x.point(3, 0, px, py, pz));
                Due.due("no row -1, no number " + v, Due.INDEX, () -> x.point(0, -1, px, py, pz));
                Due.due("no row 5, no number " + v, Due.INDEX, () -> x.point(0, 5, px, py, pz));
                Due.due("no number " + v, Due.ARGUMENT, () -> x.point(2, 4, px, py, pz));
            }
        }
    }

    /** Promise 4: IndexOutOfBoundsException; IllegalStateException. No strip of a new object can be unrolled. */
    private static void unrollOfNoStrip() {
        PlankUnroll x = new PlankUnroll(3, 4);
        Due.due("unroll -1", Due.INDEX, () -> x.unroll(-1));
        Due.due("unroll 3", Due.INDEX, () -> x.unroll(3));
        Due.due("unroll 2", Due.STATE, () -> x.unroll(2));
    }

    /** Promise 5: IndexOutOfBoundsException; IllegalStateException. */
    private static void flatOfNoCorner() {
        PlankUnroll x = Hulls.grid(3, 4);
        Due.due("flat of no strip -1", Due.INDEX, () -> x.flat(-1, 0, 0));
        Due.due("flat of no strip 3", Due.INDEX, () -> x.flat(3, 0, 0));
        Due.due("flat of no corner -1", Due.INDEX, () -> x.flat(2, -1, 0));
        Due.due("flat of no corner 6", Due.INDEX, () -> x.flat(2, 6, 0));
        Due.due("flat on no axis -1", Due.INDEX, () -> x.flat(2, 5, -1));
        Due.due("flat on no axis 2", Due.INDEX, () -> x.flat(2, 5, 2));
        Due.due("flat, not unrolled", Due.STATE, () -> x.flat(2, 5, 1));
    }

    /** Promise 6: IndexOutOfBoundsException; IllegalStateException. */
    private static void stretchOfNoCell() {
        PlankUnroll x = Hulls.grid(3, 4);
        Due.due("stretch of no strip -1", Due.INDEX, () -> x.stretch(-1, 0));
        Due.due("stretch of no strip 3", Due.INDEX, () -> x.stretch(3, 0));
        Due.due("stretch of no cell -1", Due.INDEX, () -> x.stretch(2, -1));
        Due.due("stretch of no cell 2", Due.INDEX, () -> x.stretch(2, 2));
        Due.due("stretch, not unrolled", Due.STATE, () -> x.stretch(2, 1));
    }

    /** Promise 7: IndexOutOfBoundsException; IllegalStateException. */
    private static void worstOfNoStrip() {
        PlankUnroll x = Hulls.grid(3, 4);
        Due.due("worst of no strip -1", Due.INDEX, () -> x.worst(-1));
        Due.due("worst of no strip 3", Due.INDEX, () -> x.worst(3));
        Due.due("worst, not unrolled", Due.STATE, () -> x.worst(2));
    }

    /** Promise 13: IllegalArgumentException; IllegalStateException. */
    private static void boardOfNoSideBeyondFour() {
        PlankUnroll x = new PlankUnroll(2, 2);
        for (int b = 0; b < 4; b++) {
            x.board(1, 1);
        }
        double[] noSide = {Double.NaN, Math.nextDown(1.0), Math.nextUp(1000.0), Double.NEGATIVE_INFINITY};
        for (double v : noSide) {
            Due.due("a fifth board with w " + v, Due.ARGUMENT, () -> x.board(v, 1));
            Due.due("a fifth board with h " + v, Due.ARGUMENT, () -> x.board(1, v));
        }
        Due.due("a fifth board", Due.STATE, () -> x.board(1, 1));
    }

    /** Promise 14: IndexOutOfBoundsException; IllegalArgumentException. */
    private static void faultOfNoBoard() {
        PlankUnroll x = new PlankUnroll(2, 2);
        for (int boards = 0; boards < 4; boards++) {
            int none = boards;
            for (double v : NO_NUMBER) {
                Due.due("no board -1, x " + v, Due.INDEX, () -> x.fault(-1, v, 0, 1, 1));
                Due.due("no board " + none + ", x " + v, Due.INDEX, () -> x.fault(none, v, 0, 1, 1));
                Due.due("no board " + none + ", y " + v, Due.INDEX, () -> x.fault(none, 0, v, 1, 1));
                Due.due("no board " + none + ", w " + v, Due.INDEX, () -> x.fault(none, 0, 0, v, 1));
                Due.due("no board " + none + ", h " + v, Due.INDEX, () -> x.fault(none, 0, 0, 1, v));
            }
            x.board(1, 1);
            Due.due("board " + none + ", no x", Due.ARGUMENT, () -> x.fault(none, -1, 0, 1, 1));
        }
    }

    /** Promise 14: what is no fault throws, also where there is no room for one more. */
    private static void faultOfNoSizeWithoutRoom() {
        PlankUnroll x = new PlankUnroll(2, 2);
        x.board(1, 1);
        for (int n = 0; n < 8; n++) {
            x.fault(0, 0, 0, 1, 1);
        }
        for (double v : NO_NUMBER) {
            Due.due("a ninth with x " + v, Due.ARGUMENT, () -> x.fault(0, v, 0, 1, 1));
            Due.due("a ninth with y " + v, Due.ARGUMENT, () -> x.fault(0, 0, v, 1, 1));
            Due.due("a ninth with w " + v, Due.ARGUMENT, () -> x.fault(0, 0, 0, v, 1));
            Due.due("a ninth with h " + v, Due.ARGUMENT, () -> x.fault(0, 0, 0, 1, v));
        }
        Due.due("a ninth", false, () -> x.fault(0, 0, 0, 1, 1));
    }

    /** Promise 15: IndexOutOfBoundsException; IllegalStateException. */
    private static void nestOfNoBoardOrStrip() {
        PlankUnroll x = Hulls.grid(3, 4);
        x.unroll(1);
        Due.due("no board yet, not unrolled", Due.INDEX, () -> x.nest(0, 0));
        Due.due("no board yet, unrolled", Due.INDEX, () -> x.nest(0, 1));
        x.board(100, 100);
        Due.due("no board 1, not unrolled", Due.INDEX, () -> x.nest(1, 0));
        Due.due("no board -1, not unrolled", Due.INDEX, () -> x.nest(-1, 0));
        Due.due("no strip -1", Due.INDEX, () -> x.nest(0, -1));
        Due.due("no strip 3", Due.INDEX, () -> x.nest(0, 3));
        Due.due("not unrolled", Due.STATE, () -> x.nest(0, 0));
        Due.due("nest", 0, () -> x.nest(0, 1));
        Due.due("no board 1, the strip lies on a board", Due.INDEX, () -> x.nest(1, 1));
        Due.due("no board -1, the strip lies on a board", Due.INDEX, () -> x.nest(-1, 1));
        Due.due("the strip lies on a board", Due.STATE, () -> x.nest(0, 1));
    }
}
