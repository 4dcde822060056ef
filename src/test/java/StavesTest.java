/** Promises 17 and 18: staves, closes. */
public final class StavesTest {
    private static final double PI = 3.141592653589793;
    private static final double[] WIDTHS = {
        0.125, 0.12500000000000003, 0.3, 0.7, 1, 3.141592653589793, 3.1415926535897936, 7, 31.41592653589793, 999.9, 1000
    };
    private static final double[] DIAMETERS = {
        0, -0.0, Double.MIN_VALUE, 0.001, 0.125, 1, 2, 3, 7, 10, 12.5, 100, 123.456, 999.9999, 1000
    };
    private static final double[] NO_WIDTHS = {
        0.12499999999999999, 0, -1, 1000.0000000000001, Double.NaN, Double.POSITIVE_INFINITY, Double.NEGATIVE_INFINITY
    };
    private static final double[] NO_DIAMETERS = {
        -Double.MIN_VALUE, -1, 1000.0000000000001, Double.NaN, Double.POSITIVE_INFINITY, Double.NEGATIVE_INFINITY
    };

    public static void main(String[] args) {
        PlankUnroll x = new PlankUnroll(2, 2);
        for (double wide : WIDTHS) {
            for (double diameter : DIAMETERS) {
                int due = counted(wide, diameter);
                Due.due("staves(" + wide + ", " + diameter + ")", due, () -> x.staves(wide, diameter));
            }
        }
        manyStaves(x);
        Due.due("a whole number of staves is enough", 10, () -> x.staves(3.141592653589793, 10));
        Due.due("no circle", 1, () -> x.staves(1000, 0));
        Due.due("the most", 25133, () -> x.staves(0.125, 1000));
        closing(x);
        wrongNumbers(x);
        Due.end("StavesTest");
    }

    /** By trying 1, 2, .. in turn. */
    private static int counted(double wide, double diameter) {
        int n = 1;
        while (n * wide < diameter * PI) {
            n++;
        }
        return n;
    }

    /** Circles that n staves, or a little more or less, close to the last bit. */
    private static void manyStaves(PlankUnroll x) {
        for (int n = 1; n < 2000; n += 37) {
            for (double wide = 0.125; wide < 3; wide += 0.17) {
                double diameter = n * wide / PI;
                double[] near = {diameter, Math.nextUp(diameter), Math.nextDown(diameter)};
                for (double d : near) {
                    if (d <= 1000) {
                        double w = wide;
                        int due = counted(wide, d);
                        Due.due("staves(" + wide + ", " + d + ")", due, () -> x.staves(w, d));
                    }
                }
            }
        }
    }

    private static void closing(PlankUnroll x) {
        Due.due("closes 1", 1.0, () -> x.closes(1, 1, 0));
        Due.due("less than the circle", 0.125 - 1000 * PI, () -> x.closes(1, 0.125, 1000));
        Due.due("the most", 100000.0 * 1000 - 1000 * PI, () -> x.closes(100000, 1000, 1000));
        Due.due("just closed", 0.0, () -> x.closes(10, 3.141592653589793, 10));
        Due.due("17 of 2.5 on 13", 17 * 2.5 - 13 * PI, () -> x.closes(17, 2.5, 13));
        for (double wide : WIDTHS) {
            Due.due("closes(3, " + wide + ", 5)", 3 * wide - 5 * PI, () -> x.closes(3, wide, 5));
        }
    }

    private static void wrongNumbers(PlankUnroll x) {
        for (double wide : NO_WIDTHS) {
            Due.due("staves wide " + wide, Due.ARGUMENT, () -> x.staves(wide, 1));
            Due.due("closes wide " + wide, Due.ARGUMENT, () -> x.closes(1, wide, 1));
        }
        for (double diameter : NO_DIAMETERS) {
            Due.due("staves diameter " + diameter, Due.ARGUMENT, () -> x.staves(1, diameter));
            Due.due("closes diameter " + diameter, Due.ARGUMENT, () -> x.closes(1, 1, diameter));
        }
        int[] wrong = {0, -1, 100001, Integer.MIN_VALUE, Integer.MAX_VALUE};
        for (int n : wrong) {
            Due.due("closes n " + n, Due.ARGUMENT, () -> x.closes(n, 1, 1));
        }
    }
}
