/** Promises 13 to 16: board, fault, nest, lies. */
public final class BoardsTest {
    private static final int[] NONE_SUCH = {-1, Integer.MIN_VALUE, Integer.MAX_VALUE};
    private static final double[] NEVER = {
        Double.NaN, Double.POSITIVE_INFINITY, Double.NEGATIVE_INFINITY, -1, 1000.0000000000001
    };

    public static void main(String[] args) {
        boards();
        boardThrows();
        faults();
        faultThrows();
        nestAlong();
        nestBesideFaults();
        nestAcross();
        nestLarge();
        nestBetweenEighths();
        nestNoLength();
        nestThrows();
        nestNone();
        nestOnTwoBoards();
        liesThrows();
        Due.end("BoardsTest");
    }

    private static void boards() {
        PlankUnroll x = new PlankUnroll(2, 2);
        Due.due("the least", 0, () -> x.board(1, 1));
        Due.due("a wrong one is none", Due.ARGUMENT, () -> x.board(0.5, 1));
        Due.due("the greatest", 1, () -> x.board(1000, 1000));
        Due.due("a third", 2, () -> x.board(1, 1000));
        x.point(0, 0, 1, 1, 1);
        Due.due("a fourth: a place takes none away", 3, () -> x.board(1000, 1));
        Due.due("a fifth", Due.STATE, () -> x.board(1, 1));
        Due.due("a wrong fifth", Due.ARGUMENT, () -> x.board(1, 0));
        Due.due("the fourth is there", true, () -> x.fault(3, 0, 0, 1, 1));
        Due.due("the fifth is not", Due.INDEX, () -> x.fault(4, 0, 0, 1, 1));
    }

    private static void boardThrows() {
        PlankUnroll x = new PlankUnroll(2, 2);
        for (double v : NEVER) {
            Due.due("w " + v, Due.ARGUMENT, () -> x.board(v, 1));
            Due.due("h " + v, Due.ARGUMENT, () -> x.board(1, v));
        }
        Due.due("w 0.9999", Due.ARGUMENT, () -> x.board(0.9999999999999999, 1));
        Due.due("h 0.9999", Due.ARGUMENT, () -> x.board(1, 0.9999999999999999));
        Due.due("the first one", 0, () -> x.board(1, 1));
    }

    private static void faults() {
        PlankUnroll x = new PlankUnroll(2, 2);
        x.board(10, 10);
        x.board(10, 10);
        for (int n = 0; n < 8; n++) {
            Due.due("fault " + n, true, () -> x.fault(0, 0, 0, 1, 1));
        }
        Due.due("a ninth", false, () -> x.fault(0, 0, 0, 1, 1));
        Due.due("a wrong ninth", Due.ARGUMENT, () -> x.fault(0, 0, 0, 0, 1));
        Due.due("of the other board", true, () -> x.fault(1, 1000, 1000, 1000, 1000));
        Due.due("the least", true, () -> x.fault(1, 0, -0.0, 0.125, 0.125));
    }

    private static void faultThrows() {
        PlankUnroll x = new PlankUnroll(2, 2);
        Due.due("no board", Due.INDEX, () -> x.fault(0, Double.NaN, 0, 1, 1));
        x.board(10, 10);
        for (int none : NONE_SUCH) {
            Due.due("board " + none, Due.INDEX, () -> x.fault(none, 0, 0, 0, 0));
        }
        Due.due("board 1", Due.INDEX, () -> x.fault(1, 0, 0, 1, 1));
        for (double v : NEVER) {
            Due.due("x " + v, Due.ARGUMENT, () -> x.fault(0, v, 0, 1, 1));
            Due.due("y " + v, Due.ARGUMENT, () -> x.fault(0, 0, v, 1, 1));
            Due.due("w " + v, Due.ARGUMENT, () -> x.fault(0, 0, 0, v, 1));
            Due.due("h " + v, Due.ARGUMENT, () -> x.fault(0, 0, 0, 1, v));
        }
        Due.due("w 0.1249", Due.ARGUMENT, () -> x.fault(0, 0, 0, 0.12499999999999999, 1));
        Due.due("h 0.1249", Due.ARGUMENT, () -> x.fault(0, 0, 0, 1, 0.12499999999999999));
        Due.due("x below 0", Due.ARGUMENT, () -> x.fault(0, -Double.MIN_VALUE, 0, 1, 1));
        Due.due("y below 0", Due.ARGUMENT, () -> x.fault(0, 0, -Double.MIN_VALUE, 1, 1));
        for (int n = 0; n < 8; n++) {
            Due.due("none of those counts " + n, true, () -> x.fault(0, 0, 0, 1, 1));
        }
    }

    private static void nestAlong() {
        PlankUnroll x = Hulls.strips(8);
        Due.due("a board", 0, () -> x.board(3, 1.5));
        Due.same("a strip's length", 0.5, Hulls.extent(x, 0, 4, 0));
        for (int s = 0; s < 6; s++) {
            int strip = 6 - s;
            int due = 4 * s;
            Due.due("nest " + strip, due, () -> x.nest(0, strip));
            Due.due("lies " + strip, 0, () -> x.lies(strip, 0));
            Due.due("its k " + strip, due, () -> x.lies(strip, 1));
        }
        Due.due("no room for one more", -1, () -> x.nest(0, 0));
        Due.due("it lies nowhere", -1, () -> x.lies(0, 0));
        Due.due("it has no k", -1, () -> x.lies(0, 1));
        Due.due("its corners are there still", 0.0, () -> x.flat(0, 0, 0));
    }

    private static void nestBesideFaults() {
        PlankUnroll x = Hulls.strips(4);
        x.board(100, 2);
        x.fault(0, 1.4375, 0, 1.25, 0.125);
        x.fault(0, 0.25, 0.5, 0.25, 1);
        x.fault(0, 3.25, 1, 0.125, 9);
        // Behind 0.5 at 0.5 .. 1, then 1.4375 bars 1 .. 1.5, and its end at 2.6875 is none at a whole eighth.
        Due.due("behind the fault at 0.25, touching it", 4, () -> x.nest(0, 2));
        Due.due("behind the fault at 1.4375", 22, () -> x.nest(0, 0));
        Due.due("behind both", 26, () -> x.nest(0, 1));
        PlankUnroll before = Hulls.strips(2);
        before.board(100, 2);
        before.fault(0, 0.5, 0, 1, 1);
        Due.due("before a fault, touching it", 0, () -> before.nest(0, 0));
        PlankUnroll barred = Hulls.strips(2);
        barred.board(100, 2);
        barred.fault(0, 0.49999, 0, 99.5, 1);
        Due.due("no room before it or behind it", -1, () -> barred.nest(0, 0));
        PlankUnroll over = Hulls.strips(2);
        over.board(10, 10);
        over.fault(0, 0, 0, 9.5, 1);
        over.fault(0, 1000, 0, 1000, 1000);
        Due.due("at the board's end", 76, () -> over.nest(0, 0));
        PlankUnroll late = Hulls.strips(2);
        late.board(10, 10);
        late.nest(0, 0);
        Due.due("a fault where a strip lies", true, () -> late.fault(0, 0, 0, 1, 1));
        Due.due("the strip lies there still", 0, () -> late.lies(0, 1));
    }

    private static void nestAcross() {
        PlankUnroll x = Hulls.strips(2);
        double height = Hulls.extent(x, 0, 4, 1);
        x.board(10, 2);
        x.fault(0, 0, height, 10, 1);
        Due.due("a fault that is touched across", 0, () -> x.nest(0, 0));
        PlankUnroll y = Hulls.strips(2);
        y.board(10, 2);
        y.fault(0, 0, Math.nextDown(height), 5, 1);
        Due.due("a fault that is overlapped across", 40, () -> y.nest(0, 0));
    }

    private static void nestLarge() {
        PlankUnroll x = new PlankUnroll(2, 2);
        x.point(0, 1, 0, 4, 0);
        x.point(1, 0, 3, 0, 0);
        x.point(1, 1, 3, 4, 0);
        x.unroll(0);
        double w = Hulls.extent(x, 0, 4, 0);
        double h = Hulls.extent(x, 0, 4, 1);
        x.board(Math.nextDown(w), 10);
        x.board(10, Math.nextDown(h));
        x.board(w, h);
        Due.due("too long", -1, () -> x.nest(0, 0));
        Due.due("too high", -1, () -> x.nest(1, 0));
        Due.due("just as large", 0, () -> x.nest(2, 0));
        PlankUnroll below = new PlankUnroll(2, 2);
        below.point(0, 1, 0, 4, 0);
        below.point(1, 0, 3, -2, 0);
        below.point(1, 1, 3, 1, 0);
        below.unroll(0);
        double high = Hulls.extent(below, 0, 4, 1);
        Due.same("it goes below 0 and is higher than its corners say from 0 on", true, high > 5.9);
        below.board(3.5, 5);
        below.board(3.5, 6.5);
        Due.due("higher than the board", -1, () -> below.nest(0, 0));
        Due.due("as high as the board", 0, () -> below.nest(1, 0));
        nestToTheLeft();
    }

    /** A strip with corners to the left of corner 0 is longer than from 0 on. */
    private static void nestToTheLeft() {
        PlankUnroll x = new PlankUnroll(2, 2);
        x.point(0, 1, 0, 4, 0);
        x.point(1, 0, 1, 10, 0);
        x.point(1, 1, -3, 8, 0);
        x.unroll(0);
        Due.same("it goes to the left", true, x.flat(0, 3, 0) < -2.9);
        double wide = Hulls.extent(x, 0, 4, 0);
        double tall = Hulls.extent(x, 0, 4, 1);
        x.board(Math.nextDown(wide), tall);
        x.board(wide, Math.nextDown(tall));
        x.board(wide, tall);
        Due.due("longer than the board", -1, () -> x.nest(0, 0));
        Due.due("higher than the board", -1, () -> x.nest(1, 0));
        Due.due("as large as the board", 0, () -> x.nest(2, 0));
    }

    private static void nestBetweenEighths() {
        PlankUnroll x = Hulls.strips(3);
        x.board(1.0625, 2);
        x.fault(0, 0, 0, 0.5, 1);
        Due.due("k / 8 and no more", 4, () -> x.nest(0, 0));
        Due.due("none for the other", -1, () -> x.nest(0, 1));
        PlankUnroll y = Hulls.strips(2);
        y.board(1.0625, 2);
        y.fault(0, 0, 0, 0.5625, 1);
        Due.due("it would lie at 4.5 eighths", -1, () -> y.nest(0, 0));
        PlankUnroll z = Hulls.strips(2);
        z.board(1000, 2);
        z.fault(0, 0, 0, 999.5, 1);
        Due.due("the last k of the longest board", 7996, () -> z.nest(0, 0));
    }

    /** All corners of the strip lie over one another: at 0 along the board it only touches what lies there. */
    private static void nestNoLength() {
        PlankUnroll x = new PlankUnroll(2, 2);
        x.point(0, 1, 0, 2, 0);
        x.point(1, 1, 0, 2, 0);
        x.unroll(0);
        Due.same("no length", 0.0, Hulls.extent(x, 0, 4, 0));
        x.board(2, 3);
        x.fault(0, 0, 0, 1, 1);
        Due.due("at the fault's first edge", 0, () -> x.nest(0, 0));
    }

    private static void nestThrows() {
        PlankUnroll x = new PlankUnroll(2, 3);
        for (int row = 0; row < 3; row++) {
            x.point(0, row, 0, row, 0);
            x.point(1, row, 1, row, 0);
        }
        Due.due("no board", Due.INDEX, () -> x.nest(0, 0));
        x.board(10, 10);
        x.board(10, 10);
        for (int none : NONE_SUCH) {
            Due.due("board " + none, Due.INDEX, () -> x.nest(none, 0));
            Due.due("strip " + none, Due.INDEX, () -> x.nest(0, none));
        }
        Due.due("board 2", Due.INDEX, () -> x.nest(2, 0));
        Due.due("strip 2", Due.INDEX, () -> x.nest(0, 2));
        Due.due("not unrolled", Due.STATE, () -> x.nest(0, 0));
        x.unroll(0);
        Due.due("the other one is not", Due.STATE, () -> x.nest(0, 1));
        Due.due("nest", 0, () -> x.nest(1, 0));
        Due.due("on the board on which it lies", Due.STATE, () -> x.nest(1, 0));
        Due.due("on another board", Due.STATE, () -> x.nest(0, 0));
        Due.due("on no board", Due.INDEX, () -> x.nest(2, 0));
        Due.due("unroll again", 2, () -> x.unroll(0));
        Due.due("it lies there still", 1, () -> x.lies(0, 0));
        Due.due("nest once more", Due.STATE, () -> x.nest(0, 0));
    }

    private static void nestNone() {
        PlankUnroll x = Hulls.strips(2);
        x.board(1, 1);
        x.board(1, 2);
        x.fault(0, 0, 0, 1, 1);
        Due.due("no room", -1, () -> x.nest(0, 0));
        Due.due("it lies nowhere", -1, () -> x.lies(0, 0));
        Due.due("on another board", 0, () -> x.nest(1, 0));
        Due.due("it lies there", 1, () -> x.lies(0, 0));
    }

    private static void nestOnTwoBoards() {
        PlankUnroll x = Hulls.strips(5);
        x.board(10, 2);
        x.board(10, 2);
        Due.due("first on board 1", 0, () -> x.nest(1, 3));
        Due.due("first on board 0", 0, () -> x.nest(0, 1));
        Due.due("second on board 1", 4, () -> x.nest(1, 0));
        Due.due("second on board 0", 4, () -> x.nest(0, 2));
        Due.due("the board of strip 0", 1, () -> x.lies(0, 0));
        Due.due("the k of strip 0", 4, () -> x.lies(0, 1));
    }

    private static void liesThrows() {
        PlankUnroll x = Hulls.strips(3);
        for (int none : NONE_SUCH) {
            Due.due("strip " + none, Due.INDEX, () -> x.lies(none, 0));
            Due.due("what " + none, Due.INDEX, () -> x.lies(0, none));
        }
        Due.due("strip 2", Due.INDEX, () -> x.lies(2, 0));
        Due.due("what 2", Due.INDEX, () -> x.lies(0, 2));
        Due.due("no board", -1, () -> x.lies(0, 0));
        Due.due("no k", -1, () -> x.lies(0, 1));
    }
}
