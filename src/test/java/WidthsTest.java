/** Promises 9 and 10: width, girth. */
public final class WidthsTest {
    private static final int[] NONE_SUCH = {-1, Integer.MIN_VALUE, Integer.MAX_VALUE};

    public static void main(String[] args) {
        PlankUnroll x = new PlankUnroll(3, 4);
        x.point(1, 0, 1, 1, 1);
        x.point(1, 1, 1, 4, 5);
        x.point(1, 2, 13, 4, 0);
        x.point(1, 3, 13, 12, 6);
        widths(x);
        girths(x);
        wrongOnes(x);
        inTurn();
        Due.end("WidthsTest");
    }

    private static void widths(PlankUnroll x) {
        Due.due("width 0", 5.0, () -> x.width(0, 1));
        Due.due("width 1", 13.0, () -> x.width(1, 1));
        Due.due("width 2", 10.0, () -> x.width(2, 1));
        Due.due("width of another frame", 0.0, () -> x.width(2, 2));
        x.point(1, 3, 13, 4, 1);
        Due.due("width of the place as it is now", 1.0, () -> x.width(2, 1));
        x.point(1, 3, 13, 12, 6);
    }

    private static void girths(PlankUnroll x) {
        Due.due("girth", 28.0, () -> x.girth(1));
        Due.due("girth of a frame without places", 0.0, () -> x.girth(0));
        x.point(2, 3, 3, 0, 0);
        Due.due("girth of the last strip's width", 3.0, () -> x.girth(2));
        PlankUnroll one = new PlankUnroll(2, 2);
        one.point(1, 1, 0, 0, -7);
        Due.due("girth of one strip", 7.0, () -> one.girth(1));
    }

    private static void wrongOnes(PlankUnroll x) {
        for (int none : NONE_SUCH) {
            Due.due("width of strip " + none, Due.INDEX, () -> x.width(none, 0));
            Due.due("width at frame " + none, Due.INDEX, () -> x.width(0, none));
            Due.due("girth of frame " + none, Due.INDEX, () -> x.girth(none));
        }
        Due.due("width of strip 3", Due.INDEX, () -> x.width(3, 0));
        Due.due("width at frame 3", Due.INDEX, () -> x.width(0, 3));
        Due.due("girth of frame 3", Due.INDEX, () -> x.girth(3));
    }

    /** The sum of the widths depends on their turn; it is the one from strip 0 on. */
    private static void inTurn() {
        int other = 0;
        for (int n = 1; n <= 50; n++) {
            PlankUnroll x = new PlankUnroll(2, 8);
            for (int row = 0; row < 8; row++) {
                x.point(0, row, row * row / (double) n, row * 0.3, 1.0 / (row + n));
            }
            double up = 0;
            double down = 0;
            for (int s = 0; s < 7; s++) {
                up += x.width(s, 0);
                down += x.width(6 - s, 0);
            }
            double due = up;
            Due.due("girth " + n, due, () -> x.girth(0));
            other += up != down ? 1 : 0;
        }
        Due.same("some sums depend on their turn", true, other > 5);
    }
}
