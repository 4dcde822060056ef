/** Promises 4 to 8: unroll, flat, stretch, worst, bevel. */
public final class UnrollTest {
    private static final int[] NO_STRIP = {-1, 2, Integer.MIN_VALUE, Integer.MAX_VALUE};

    public static void main(String[] args) {
        triangles();
        flatCorners();
        tooNear();
        notUnrolled();
        flatThrows();
        stretches();
        stretchThrows();
        worstCells();
        worstThrows();
        bevels();
        bevelThrows();
        Due.end("UnrollTest");
    }

    private static void triangles() {
        for (int frames = 2; frames <= 8; frames++) {
            PlankUnroll x = Hulls.grid(frames, 3);
            int due = 2 * frames - 2;
            Due.due("unroll of " + frames + " frames", due, () -> x.unroll(0));
            Due.due("once more", due, () -> x.unroll(0));
            Due.due("the last strip", due, () -> x.unroll(1));
            for (int none : NO_STRIP) {
                Due.due("unroll " + none, Due.INDEX, () -> x.unroll(none));
            }
        }
    }

    private static void near(String call, double want, double got) {
        double off = got - want;
        Due.same(call + " near " + want + ", is " + got, true, off < 1e-9 && off > -1e-9);
    }

    private static void flatCorners() {
        PlankUnroll x = Hulls.grid(4, 3);
        x.unroll(1);
        for (int f = 0; f < 4; f++) {
            near("x of a " + f, 3 * f, x.flat(1, 2 * f, 0));
            near("y of a " + f, 0, x.flat(1, 2 * f, 1));
            near("x of b " + f, 3 * f, x.flat(1, 2 * f + 1, 0));
            near("y of b " + f, 4, x.flat(1, 2 * f + 1, 1));
        }
        // Bent over at frame 1: laid flat it is as long as before.
        PlankUnroll bent = new PlankUnroll(3, 2);
        bent.point(0, 1, 0, 4, 0);
        bent.point(1, 0, 3, 0, 0);
        bent.point(1, 1, 3, 4, 0);
        bent.point(2, 0, 3, 0, 5);
        bent.point(2, 1, 3, 4, 5);
        bent.unroll(0);
        near("x of the bent end", 8, bent.flat(0, 4, 0));
        near("y of the bent end", 0, bent.flat(0, 4, 1));
        near("x of the bent end in b", 8, bent.flat(0, 5, 0));
        near("y of the bent end in b", 4, bent.flat(0, 5, 1));
        // Corner 2 from corners 0 and 1, by the operations of the document.
        PlankUnroll skew = new PlankUnroll(2, 2);
        skew.point(0, 1, 0, 2, 0);
        skew.point(1, 0, 2, 1, 2);
        skew.point(1, 1, 2, 3, 2);
        skew.unroll(0);
        near("x of the skew end", Math.sqrt(8), skew.flat(0, 2, 0));
        near("y of the skew end", 1, skew.flat(0, 2, 1));
        near("x of the skew end in b", Math.sqrt(8), skew.flat(0, 3, 0));
        near("y of the skew end in b", 3, skew.flat(0, 3, 1));
    }

    private static void tooNear() {
        double edge = 1.0 / 1024;
        PlankUnroll x = Hulls.grid(2, 3);
        x.point(0, 0, 0, 4 - edge, 0);
        Due.due("corners 1 / 1024 apart", 2, () -> x.unroll(0));
        x.point(0, 0, 0, 0, 0);
        x.point(0, 1, 0, edge * 0.999999, 0);
        Due.due("corners nearer than 1 / 1024", Due.STATE, () -> x.unroll(0));
        Due.due("flat after that", Due.STATE, () -> x.flat(0, 0, 0));
        Due.due("the other strip", 2, () -> x.unroll(1));
        Due.due("unrolled in vain once more", Due.STATE, () -> x.unroll(0));
        Due.due("the other strip stays unrolled", 0.0, () -> x.flat(1, 0, 0));
        // Corners 0 and 1 are far apart, but a of frame 1 is b of frame 0: corner 3 can't be put.
        PlankUnroll y = Hulls.grid(2, 3);
        y.point(1, 0, 0, 4, 0);
        Due.due("a of frame 1 on b of frame 0", Due.STATE, () -> y.unroll(0));
        // Corners 2 and 3 fall together: a cell more can't be put.
        PlankUnroll z = Hulls.grid(3, 3);
        z.point(1, 1, 3, 0, 0);
        Due.due("b of frame 1 on a", Due.STATE, () -> z.unroll(0));
    }

    private static void notUnrolled() {
        PlankUnroll x = Hulls.grid(3, 3);
        Due.due("flat", Due.STATE, () -> x.flat(0, 0, 0));
        Due.due("stretch", Due.STATE, () -> x.stretch(0, 0));
        Due.due("worst", Due.STATE, () -> x.worst(0));
        Due.due("bevel needs none", 1.0, () -> x.bevel(0, 0));
        Due.due("unroll 1", 4, () -> x.unroll(1));
        Due.due("flat of strip 0", Due.STATE, () -> x.flat(0, 0, 0));
        Due.due("flat of strip 1", 0.0, () -> x.flat(1, 0, 0));
        x.point(0, 0, 0, 0, 1);
        Due.due("flat of strip 1 after a place of strip 0", Due.STATE, () -> x.flat(1, 0, 0));
    }

    private static void flatThrows() {
        PlankUnroll x = Hulls.grid(3, 3);
        x.unroll(0);
        Due.due("the last corner", true, () -> x.flat(0, 5, 1) > 3.9);
        for (int none : NO_STRIP) {
            Due.due("strip " + none, Due.INDEX, () -> x.flat(none, 0, 0));
            Due.due("axis " + none, Due.INDEX, () -> x.flat(0, 0, none));
            Due.due("axis " + none + ", not unrolled", Due.INDEX, () -> x.flat(1, 0, none));
        }
        int[] corners = {-1, 6, Integer.MIN_VALUE, Integer.MAX_VALUE};
        for (int none : corners) {
            Due.due("corner " + none, Due.INDEX, () -> x.flat(0, none, 0));
            Due.due("corner " + none + ", not unrolled", Due.INDEX, () -> x.flat(1, none, 0));
        }
    }

    /** In cell 0 the four places make a pyramid: a place of b is lifted by z. */
    private static PlankUnroll lifted(double z) {
        PlankUnroll x = new PlankUnroll(4, 2);
        for (int f = 0; f < 4; f++) {
            x.point(f, 0, 3 * f, 0, 0);
            x.point(f, 1, 3 * f, 4, 0);
        }
        x.point(1, 1, 3, 4, z);
        return x;
    }

    private static void stretches() {
        PlankUnroll x = lifted(3);
        x.unroll(0);
        double dx = x.flat(0, 3, 0) - x.flat(0, 0, 0);
        double dy = x.flat(0, 3, 1) - x.flat(0, 0, 1);
        near("stretch", Math.sqrt(dx * dx + dy * dy) - Math.sqrt(34), x.stretch(0, 0));
        Due.due("it is above 0", true, () -> x.stretch(0, 0) > 0.01);
        PlankUnroll flat = Hulls.grid(8, 3);
        flat.unroll(0);
        for (int cell = 0; cell < 7; cell++) {
            near("stretch of a plane's cell " + cell, 0, flat.stretch(0, cell));
        }
    }

    private static void stretchThrows() {
        PlankUnroll x = Hulls.grid(3, 3);
        x.unroll(0);
        for (int none : NO_STRIP) {
            Due.due("strip " + none, Due.INDEX, () -> x.stretch(none, 0));
            Due.due("cell " + none, Due.INDEX, () -> x.stretch(0, none));
            Due.due("cell " + none + ", not unrolled", Due.INDEX, () -> x.stretch(1, none));
        }
        Due.due("not unrolled", Due.STATE, () -> x.stretch(1, 1));
    }

    /** The first cell with the greatest size of the stretches that the strip answers. */
    private static int worstOf(PlankUnroll x, int cells) {
        int found = 0;
        for (int cell = 1; cell < cells; cell++) {
            if (Math.abs(x.stretch(0, cell)) > Math.abs(x.stretch(0, found))) {
                found = cell;
            }
        }
        return found;
    }

    private static void worstCells() {
        PlankUnroll one = Hulls.grid(2, 3);
        one.unroll(0);
        Due.due("of one cell", 0, () -> one.worst(0));
        PlankUnroll still = new PlankUnroll(8, 2);
        for (int f = 0; f < 8; f++) {
            still.point(f, 1, 0, 4, 0);
        }
        still.unroll(0);
        Due.due("of cells without a stretch the first", 0, () -> still.worst(0));
        for (int cell = 0; cell < 3; cell++) {
            PlankUnroll x = new PlankUnroll(4, 2);
            for (int f = 0; f < 4; f++) {
                x.point(f, 0, 4 * f, 0, 0);
                x.point(f, 1, 4 * f, 4, f > cell ? 3 : 0);
            }
            x.unroll(0);
            int due = cell;
            Due.due("twisted in cell " + cell, due, () -> x.worst(0));
        }
        sizesCount();
    }

    /** In a plane only the rounding is off: sometimes the greatest size is of a stretch below 0. */
    private static void sizesCount() {
        int below = 0;
        int several = 0;
        for (int n = 0; n < 400; n++) {
            PlankUnroll x = new PlankUnroll(8, 2);
            for (int f = 0; f < 8; f++) {
                x.point(f, 0, f + (n * 7 + f * f) % 5 / 16.0, n % 3 / 8.0, 0);
                x.point(f, 1, f + (n * 3 + f) % 7 / 16.0, 2 + n % 11 / 8.0, 0);
            }
            x.unroll(0);
            int due = worstOf(x, 7);
            double most = x.stretch(0, due);
            for (int cell = due + 1; cell < 7; cell++) {
                several += Math.abs(x.stretch(0, cell)) == Math.abs(most) ? 1 : 0;
            }
            below += most < 0 ? 1 : 0;
            Due.due("worst of plane " + n, due, () -> x.worst(0));
        }
        Due.same("some worst one is below 0", true, below > 10);
        Due.same("some have several worst ones", true, several > 10);
    }

    private static void worstThrows() {
        PlankUnroll x = Hulls.grid(3, 3);
        for (int none : NO_STRIP) {
            Due.due("strip " + none, Due.INDEX, () -> x.worst(none));
        }
        Due.due("not unrolled", Due.STATE, () -> x.worst(0));
    }

    private static void bevels() {
        PlankUnroll x = new PlankUnroll(2, 2);
        Due.due("of no triangles", 1.0, () -> x.bevel(0, 0));
        x.point(0, 1, 0, 1, 0);
        x.point(1, 0, 1, 0, 0);
        x.point(1, 1, 0, 1, 0);
        Due.due("of a second triangle that is none", 1.0, () -> x.bevel(0, 0));
        x.point(1, 1, 1, 1, 0);
        Due.due("in a plane", 1.0, () -> x.bevel(0, 0));
        // The second triangle stands upright on the first one.
        x.point(1, 1, 0.5, 0.5, 1);
        near("upright", 0, x.bevel(0, 0));
        // It is folded back on the first one.
        x.point(1, 1, 0.25, 0.25, 0);
        near("folded back", -1, x.bevel(0, 0));
        x.point(1, 1, 1, 1, 1);
        near("bent", 1 / Math.sqrt(3), x.bevel(0, 0));
        // b of frame 0 lies on the line of a.
        x.point(0, 1, 2, 0, 0);
        Due.due("of a first triangle that is none", 1.0, () -> x.bevel(0, 0));
        PlankUnroll any = new PlankUnroll(2, 2);
        any.point(0, 0, 1, 2, 3);
        any.point(0, 1, 2, 5, 4);
        any.point(1, 0, 4, 1, 5);
        any.point(1, 1, 6, 3, 9);
        // The products are 7, 1, -10 and 18, 6, -12.
        near("of any places", 252 / (Math.sqrt(150) * Math.sqrt(504)), any.bevel(0, 0));
        any.point(1, 1, -6, 7, -9);
        // The second product is now -50, -18, 28.
        near("of other ones", -648 / (Math.sqrt(150) * Math.sqrt(3608)), any.bevel(0, 0));
        PlankUnroll two = new PlankUnroll(3, 3);
        for (int row = 0; row < 3; row++) {
            two.point(0, row, 0, row, 0);
            two.point(1, row, 1, row, 0);
            two.point(2, row, 2, row, row == 2 ? 1 : 0);
        }
        near("cell 1 of strip 1", 1 / Math.sqrt(3), two.bevel(1, 1));
        Due.due("cell 0 of strip 1", 1.0, () -> two.bevel(1, 0));
        Due.due("cell 1 of strip 0", 1.0, () -> two.bevel(0, 1));
    }

    private static void bevelThrows() {
        PlankUnroll x = Hulls.grid(3, 3);
        for (int none : NO_STRIP) {
            Due.due("strip " + none, Due.INDEX, () -> x.bevel(none, 0));
            Due.due("cell " + none, Due.INDEX, () -> x.bevel(0, none));
        }
        Due.due("the last one", 1.0, () -> x.bevel(1, 1));
    }
}
