/** The edges of "NESTED": the board's end, touching and overlapping to the last bit, the least k, once and on one board. */
public final class NestEdgesTest {
    /** How long the strips of Hulls.strips are. */
    private static final double LONG = 0.5;

    public static void main(String[] args) {
        stripsAreAsLongAsSaid();
        boardsEndAlong();
        boardsEndAcross();
        lessFromTheLeast();
        leastK();
        lastK();
        touchingFaultsAlong();
        touchingFaultsAcross();
        leastFault();
        faultsBeyondTheBoard();
        eachOfEightFaults();
        ninthFaultIsNone();
        touchingStrips();
        eachOfSevenStrips();
        stripsWithoutLength();
        onOneBoardOnce();
        noneLiesNowhere();
        anotherPlaceEmptiesBoards();
        faultAfterwards();
        unrolledAgain();
        Due.end("NestEdgesTest");
    }

    private static void stripsAreAsLongAsSaid() {
        PlankUnroll x = Hulls.strips(8);
        for (int s = 0; s < 7; s++) {
            Due.same("the length of strip " + s, LONG, Hulls.extent(x, s, 4, 0));
        }
        Due.same("about 1 high", true, Math.abs(high(x) - 1) < 1e-9);
    }

    private static double high(PlankUnroll x) {
        return Hulls.extent(x, 0, 4, 1);
    }

    /** "at the least k / 8 .. along the board .. with which it lies on the board": its end may be the board's end. */
    private static void boardsEndAlong() {
        for (int k = 8; k <= 80; k++) {
            double ends = k / 8.0 + LONG;
            PlankUnroll x = Hulls.strips(2);
            x.board(ends, 2);
            x.board(Math.nextDown(ends), 2);
            x.board(Math.nextUp(ends), 2);
            for (int b = 0; b < 3; b++) {
                x.fault(b, 0, 0, k / 8.0, 1);
            }
            int due = k;
            Due.due("a little too short a board, k " + k, -1, () -> x.nest(1, 0));
            Due.due("just as long a board, k " + k, due, () -> x.nest(0, 0));
            x.point(0, 0, 0, 0, 1);
            x.point(0, 0, 0, 0, 0);
            x.unroll(0);
            Due.due("a little longer a board, k " + k, due, () -> x.nest(2, 0));
        }
    }

    /** "and 0 across with which it lies on the board". */
    private static void boardsEndAcross() {
        PlankUnroll x = Hulls.grid(3, 2);
        x.unroll(0);
        double w = Hulls.extent(x, 0, 6, 0);
        double h = Hulls.extent(x, 0, 6, 1);
        x.board(1000, Math.nextDown(h));
        x.board(Math.nextDown(w), 1000);
        x.board(w, h);
        Due.due("a little too narrow a board", -1, () -> x.nest(0, 0));
        Due.due("a little too short a board", -1, () -> x.nest(1, 0));
        Due.due("just as large a board", 0, () -> x.nest(2, 0));
    }

    /** "the rectangle that holds its corners (greatest x less least x, and y)": corners lie below 0 on both axes. */
    private static void lessFromTheLeast() {
        int left = 0;
        int under = 0;
        for (int n = 10; n < 70; n++) {
            PlankUnroll x = new PlankUnroll(4, 2);
            for (int f = 0; f < 4; f++) {
                // A ring that is closed the more the greater n is.
                double turned = (n + 1) * f / 40.0;
                x.point(f, 0, 2 * Math.sin(turned), 2 * Math.cos(turned), 0);
                x.point(f, 1, 6 * Math.sin(turned), 6 * Math.cos(turned), 0);
            }
            x.unroll(0);
            double w = Hulls.extent(x, 0, 8, 0);
            double h = Hulls.extent(x, 0, 8, 1);
            for (int c = 0; c < 8; c++) {
                left += x.flat(0, c, 0) < -0.5 ? 1 : 0;
                under += x.flat(0, c, 1) < -0.5 ? 1 : 0;
            }
            x.board(Math.nextDown(w), h);
            x.board(w, Math.nextDown(h));
            x.board(w, h);
            Due.due("a little too short a board for hull " + n, -1, () -> x.nest(0, 0));
            Due.due("a little too narrow a board for hull " + n, -1, () -> x.nest(1, 0));
            Due.due("just as large a board for hull " + n, 0, () -> x.nest(2, 0));
        }
        Due.same("some corners lie to the left of corner 0", true, left > 10);
        Due.same("some corners lie under corner 0", true, under > 10);
    }

    /** "the least k / 8 (k = 0, 1, ..)": 0 where nothing bars it, and behind what does the next whole eighth. */
    private static void leastK() {
        PlankUnroll free = Hulls.strips(2);
        free.board(10, 2);
        Due.due("the first k", 0, () -> free.nest(0, 0));
        for (int k = 1; k <= 40; k++) {
            // A fault from 0 on needs a width of 1 / 8 at the least.
            behind(k / 8.0, k);
            behind(Math.nextUp(k / 8.0), k + 1);
            behind(k / 8.0 + 0.0625, k + 1);
            behind(Math.nextDown((k + 1) / 8.0), k + 1);
        }
    }

    private static void behind(double end, int due) {
        PlankUnroll x = Hulls.strips(2);
        x.board(10, 2);
        x.fault(0, 0, 0, end, 1);
        Due.due("nest behind " + end, due, () -> x.nest(0, 0));
        Due.due("lies behind " + end, due, () -> x.lies(0, 1));
    }

    /** On the longest board: a strip that is shorter than 1 / 8 lies at the greatest k of all. */
    private static void lastK() {
        double[] ends = {999.875, Math.nextUp(999.875), 999.75, Math.nextUp(999.75)};
        int[] due = {7999, -1, 7998, 7999};
        for (int i = 0; i < ends.length; i++) {
            PlankUnroll x = new PlankUnroll(2, 2);
            x.point(0, 1, 0, 1, 0);
            x.point(1, 0, 0.12, 0, 0);
            x.point(1, 1, 0.12, 1, 0);
            x.unroll(0);
            x.board(1000, 1000);
            x.fault(0, 0, 0, ends[i], 1000);
            int k = due[i];
            Due.due("behind a fault up to " + ends[i], k, () -> x.nest(0, 0));
        }
    }

    /** "overlaps no FAULT .. (touching is no overlapping)": before the fault and behind it. */
    private static void touchingFaultsAlong() {
        for (int k = 0; k <= 16; k++) {
            double ends = k / 8.0 + LONG;
            PlankUnroll x = Hulls.strips(2);
            PlankUnroll y = Hulls.strips(2);
            PlankUnroll[] both = {x, y};
            for (PlankUnroll each : both) {
                each.board(10, 2);
                if (k > 0) {
                    each.fault(0, 0, 0, k / 8.0, 1);
                }
            }
            int due = k;
            x.fault(0, ends, 0, 2, 1);
            Due.due("between two faults, touching both, k " + k, due, () -> x.nest(0, 0));
            y.fault(0, Math.nextDown(ends), 0, 2, 1);
            int far = k + 20;
            Due.due("not between two faults, k " + k, far, () -> y.nest(0, 0));
        }
    }

    private static void touchingFaultsAcross() {
        double high = high(Hulls.strips(2));
        double[] from = {high, Math.nextDown(high), Math.nextUp(high), 0, 2};
        int[] due = {0, 24, 0, 24, 0};
        for (int i = 0; i < from.length; i++) {
            PlankUnroll x = Hulls.strips(2);
            x.board(10, 3);
            double y = from[i];
            int k = due[i];
            x.fault(0, 0, y, 3, 1);
            Due.due("a fault from " + y + " across", k, () -> x.nest(0, 0));
        }
    }

    /** A FAULT of 0.125 by 0.125 bars what lies over it. */
    private static void leastFault() {
        PlankUnroll x = Hulls.strips(2);
        x.board(10, 2);
        x.fault(0, 0, 0, 0.125, 0.125);
        Due.due("behind the least fault", 1, () -> x.nest(0, 0));
        PlankUnroll y = Hulls.strips(2);
        y.board(10, 2);
        y.fault(0, 0.375, 0.5, 0.125, 0.125);
        Due.due("behind the least fault within the strip", 4, () -> y.nest(0, 0));
    }

    /** A fault may reach beyond the board, or lie there: what of it lies on the board bars, and nothing else. */
    private static void faultsBeyondTheBoard() {
        PlankUnroll x = Hulls.strips(3);
        x.board(1, 2);
        x.fault(0, 1, 0, 1000, 1000);
        x.fault(0, 0, 2, 1000, 1000);
        x.fault(0, 1000, 1000, 1000, 1000);
        Due.due("all faults lie beyond the board", 0, () -> x.nest(0, 0));
        x.fault(0, Math.nextDown(1.0), 0, 1000, 1000);
        Due.due("one reaches onto the board", -1, () -> x.nest(0, 1));
    }

    private static void eachOfEightFaults() {
        for (int n = 0; n < 8; n++) {
            PlankUnroll x = Hulls.strips(2);
            x.board(10, 2);
            x.board(10, 2);
            for (int other = 0; other < 8; other++) {
                x.fault(0, other == n ? 0 : 900, 0, 1, 1);
            }
            Due.due("fault " + n + " bars", 8, () -> x.nest(0, 0));
            x.point(0, 0, 1, 1, 1);
            x.point(0, 0, 0, 0, 0);
            x.unroll(0);
            Due.due("fault " + n + " does not bar on the other board", 0, () -> x.nest(1, 0));
        }
    }

    /** "8 at most each": the one for which there was no room bars nothing. */
    private static void ninthFaultIsNone() {
        PlankUnroll x = Hulls.strips(2);
        x.board(10, 2);
        for (int n = 0; n < 8; n++) {
            x.fault(0, 900, 0, 1, 1);
        }
        Due.due("a ninth", false, () -> x.fault(0, 0, 0, 1, 1));
        Due.due("it bars nothing", 0, () -> x.nest(0, 0));
    }

    /** "and no strip that lies there (touching is no overlapping)": strips lie end to end, also before another one. */
    private static void touchingStrips() {
        PlankUnroll x = Hulls.strips(4);
        x.board(1.5, 2);
        for (int s = 0; s < 3; s++) {
            int strip = s;
            int due = 4 * s;
            Due.due("strip " + s + " of three that fill the board", due, () -> x.nest(0, strip));
        }
        PlankUnroll y = new PlankUnroll(2, 3);
        y.point(0, 0, 0, 0, 0);
        y.point(0, 1, 0, 1, 0);
        y.point(0, 2, 0, 2, 0);
        y.point(1, 0, 0.5, 0, 0);
        y.point(1, 1, 0.5, 1, 0);
        y.point(1, 2, 1.25, 2, 0);
        y.unroll(0);
        y.unroll(1);
        y.board(10, 3);
        // The long strip finds no room before the second fault; the short one does, and touches all that is round it.
        y.fault(0, 0, 0, 0.25, 1);
        y.fault(0, 0.75, 0, 0.125, 1);
        Due.due("the long strip", 7, () -> y.nest(0, 1));
        Due.due("the short strip before it", 2, () -> y.nest(0, 0));
    }

    private static void eachOfSevenStrips() {
        for (int last = 0; last < 7; last++) {
            PlankUnroll x = Hulls.strips(8);
            x.board(3.5, 2);
            x.board(3.5, 2);
            int strip = last;
            for (int s = 0; s < 7; s++) {
                if (s != last) {
                    x.nest(0, s);
                }
            }
            Due.due("strip " + last + " behind the six others", 24, () -> x.nest(0, strip));
            PlankUnroll y = Hulls.strips(8);
            y.board(3.5, 2);
            y.nest(0, last);
            int next = (last + 1) % 7;
            Due.due("behind strip " + last + " alone", 4, () -> y.nest(0, next));
            PlankUnroll z = Hulls.strips(8);
            z.board(3.5, 2);
            z.board(3.5, 2);
            z.nest(1, last);
            Due.due("strip " + last + " lies on another board", 0, () -> z.nest(0, next));
        }
    }

    /** All corners of the strip lie over one another: it touches whatever begins or ends where it lies. */
    private static void stripsWithoutLength() {
        PlankUnroll x = new PlankUnroll(2, 4);
        for (int row = 0; row < 4; row++) {
            x.point(0, row, row == 3 ? 1 : 0, 2 * row, 0);
            x.point(1, row, row == 3 ? 3 : 0, 2 * row, 0);
        }
        for (int s = 0; s < 3; s++) {
            x.unroll(s);
        }
        Due.same("strip 0 has no length", 0.0, Hulls.extent(x, 0, 4, 0));
        Due.same("strip 1 has no length", 0.0, Hulls.extent(x, 1, 4, 0));
        x.board(100, 100);
        Due.due("strip 0", 0, () -> x.nest(0, 0));
        Due.due("strip 1 where strip 0 lies", 0, () -> x.nest(0, 1));
        Due.due("a long strip behind both, touching them", 0, () -> x.nest(0, 2));
    }

    /** "strips that were NESTED (each once, on one board at most)". */
    private static void onOneBoardOnce() {
        PlankUnroll x = Hulls.strips(3);
        for (int b = 0; b < 4; b++) {
            x.board(10, 2);
        }
        x.nest(3, 0);
        for (int b = 0; b < 4; b++) {
            int board = b;
            Due.due("nest once more, on board " + b, Due.STATE, () -> x.nest(board, 0));
            Due.due("the board on which it lies", 3, () -> x.lies(0, 0));
            Due.due("its k", 0, () -> x.lies(0, 1));
        }
        Due.due("only once on board 3", 4, () -> x.nest(3, 1));
    }

    /** "NONE if there is none (then it lies nowhere as before)": it bars nothing, and may be nested elsewhere. */
    private static void noneLiesNowhere() {
        PlankUnroll x = Hulls.strips(3);
        x.board(1, 1);
        x.board(1, 2);
        x.fault(0, 0.25, 0.25, 0.5, 0.5);
        x.fault(1, 0.5, 0, 1, 2);
        Due.due("no room", -1, () -> x.nest(0, 0));
        Due.due("it lies nowhere", -1, () -> x.lies(0, 0));
        Due.due("it has no k", -1, () -> x.lies(0, 1));
        Due.due("again", -1, () -> x.nest(0, 0));
        Due.due("the other strip takes the only room", 0, () -> x.nest(1, 1));
        Due.due("no room behind it", -1, () -> x.nest(1, 0));
        Due.due("it lies nowhere still", -1, () -> x.lies(0, 0));
        Due.due("it is unrolled still", 0.0, () -> x.flat(0, 0, 0));
        Due.due("a third board", 2, () -> x.board(1, 2));
        Due.due("there it has room", 0, () -> x.nest(2, 0));
    }

    /** Promise 2: "then nothing is UNROLLED or NESTED any more": boards lie empty, but for their faults. */
    private static void anotherPlaceEmptiesBoards() {
        PlankUnroll x = Hulls.strips(4);
        x.board(10, 2);
        x.fault(0, 0, 0, 1, 1);
        for (int s = 0; s < 3; s++) {
            x.nest(0, s);
        }
        Due.due("the last strip lies behind the others", 16, () -> x.lies(2, 1));
        Due.due("a place of row 0", true, () -> x.point(0, 0, 0, -1, 0));
        for (int s = 0; s < 3; s++) {
            int strip = s;
            Due.due("strip " + s + " lies on no board", -1, () -> x.lies(strip, 0));
            Due.due("strip " + s + " has no k", -1, () -> x.lies(strip, 1));
            Due.due("strip " + s + " is not unrolled", Due.STATE, () -> x.nest(0, strip));
        }
        x.unroll(2);
        Due.due("right behind the fault", 8, () -> x.nest(0, 2));
        Due.due("no board was taken away", 1, () -> x.board(1, 1));
    }

    private static void faultAfterwards() {
        PlankUnroll x = Hulls.strips(3);
        x.board(10, 2);
        x.nest(0, 0);
        Due.due("a fault where a strip lies", true, () -> x.fault(0, 0, 0, 3, 1));
        Due.due("the strip lies there still", 0, () -> x.lies(0, 0));
        Due.due("at its k", 0, () -> x.lies(0, 1));
        Due.due("the next strip lies behind the fault", 24, () -> x.nest(0, 1));
    }

    private static void unrolledAgain() {
        PlankUnroll x = Hulls.strips(3);
        x.board(10, 2);
        x.nest(0, 1);
        x.nest(0, 0);
        Due.due("unroll a strip that lies on a board", 2, () -> x.unroll(0));
        Due.due("it lies there still", 0, () -> x.lies(0, 0));
        Due.due("at its k", 4, () -> x.lies(0, 1));
        Due.due("and can't be nested again", Due.STATE, () -> x.nest(0, 0));
    }
}
