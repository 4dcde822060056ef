/**
 * The edges that "Terms" names: to the last bit, as all is "reckoned in doubles by the operations told here". Where a
 * sentence can be misread, the test also looks that the other reading would answer something else.
 */
public final class TermsTest {
    private static final double LEAST_C = 1.0 / 1024;
    /** 1 halved 40 times: what 40 steps leave of the root of a number that is next to nothing. */
    private static final double LEAST_ROOT = 1.0 / (1L << 40);

    public static void main(String[] args) {
        placesAtFirst();
        nothingAtFirst();
        minusNothingIsNothing();
        rootOfNothing();
        rootBelowNothing();
        fortySteps();
        distanceFromTheLeft();
        firstTwoCorners();
        putFromTheLeft();
        putInTurn();
        leastOfTheFirstPut();
        for (int frames = 2; frames <= 8; frames++) {
            for (int strip = 0; strip < 2; strip++) {
                leastOfPut(frames, strip, false);
                leastOfPut(frames, strip, true);
            }
        }
        stretchToTheLastBit();
        worstOfSeveral();
        bevelWithoutRoots();
        bevelOfNextToNothing();
        bevelFromTheLeft();
        girthFromTheFirst();
        keptByOneStrip();
        keptBesideOneAnother();
        Due.end("TermsTest");
    }

    /** "FRAMES .. have a place x, y, z (0 at first) in each ROW." */
    private static void placesAtFirst() {
        PlankUnroll x = new PlankUnroll(8, 8);
        for (int f = 0; f < 8; f++) {
            for (int row = 0; row < 8; row++) {
                int frame = f;
                int r = row;
                Due.due("place " + f + ", " + row, false, () -> x.point(frame, r, 0, 0, 0));
            }
        }
    }

    /** Promise 1: of a new object no strip is unrolled or lies on a board, and there are no butts, boards or faults. */
    private static void nothingAtFirst() {
        PlankUnroll x = new PlankUnroll(8, 8);
        for (int s = 0; s < 7; s++) {
            int strip = s;
            Due.due("the board of strip " + s, PlankUnroll.NONE, () -> x.lies(strip, 0));
            Due.due("the k of strip " + s, PlankUnroll.NONE, () -> x.lies(strip, 1));
            Due.due("flat of strip " + s, Due.STATE, () -> x.flat(strip, 0, 0));
            Due.due("stretch of strip " + s, Due.STATE, () -> x.stretch(strip, 0));
            Due.due("worst of strip " + s, Due.STATE, () -> x.worst(strip));
            for (int f = 0; f < 8; f++) {
                int frame = f;
                Due.due("no butt of strip " + s + " at " + f, false, () -> x.butt(strip, frame, false));
            }
        }
        Due.due("no board", Due.INDEX, () -> x.nest(0, 0));
        Due.due("the first board", 0, () -> x.board(1, 1));
        Due.due("nest on it", Due.STATE, () -> x.nest(0, 0));
    }

    /** Promise 2: "whether it is another one (by ==: -0.0 for 0.0 is none; then nothing is UNROLLED or NESTED ..)". */
    private static void minusNothingIsNothing() {
        PlankUnroll x = Hulls.grid(2, 2);
        x.board(10, 10);
        x.unroll(0);
        x.nest(0, 0);
        Due.due("-0.0 for 0.0", false, () -> x.point(0, 0, -0.0, -0.0, -0.0));
        Due.due("0.0 for -0.0", false, () -> x.point(0, 0, 0.0, 0.0, 0.0));
        Due.due("-0.0 for 0.0 in z alone", false, () -> x.point(1, 1, 3, 4, -0.0));
        Due.due("it is unrolled", 0.0, () -> x.flat(0, 0, 0));
        Due.due("it is nested", 0, () -> x.lies(0, 0));
        Due.due("the next number to 4", true, () -> x.point(1, 1, 3, Math.nextUp(4.0), 0));
        Due.due("it is unrolled no more", Due.STATE, () -> x.flat(0, 0, 0));
        Due.due("it is nested no more", -1, () -> x.lies(0, 0));
        Due.due("it has no k any more", -1, () -> x.lies(0, 1));
        x.unroll(0);
        Due.due("the least number for 0.0", true, () -> x.point(0, 0, 0, 0, -Double.MIN_VALUE));
        Due.due("it is unrolled no more again", Due.STATE, () -> x.flat(0, 0, 0));
    }

    /** "ROOT(v) is 0, if v is not above 0". */
    private static void rootOfNothing() {
        PlankUnroll x = new PlankUnroll(2, 2);
        Due.due("the root of 0", 0.0, () -> x.distance(0, 0, 1, 1));
        double none = 1.5e-162;
        double some = 1.6e-162;
        Due.same("the square of the one is 0", 0.0, none * none);
        Due.same("the square of the other one is the least number", Double.MIN_VALUE, some * some);
        x.point(0, 1, none, 0, 0);
        Due.due("the root of a square that is 0", 0.0, () -> x.distance(0, 0, 0, 1));
        x.point(0, 1, -some, 0, 0);
        Due.due("the root of the least number", LEAST_ROOT, () -> x.distance(0, 0, 0, 1));
        Due.due("the same the other way round", LEAST_ROOT, () -> x.distance(0, 1, 0, 0));
    }

    /** ROOT of a number below 0 is 0: where three places lie on one line, r * r - t * t is rounded to below 0. */
    private static void rootBelowNothing() {
        int below = 0;
        for (int n = 1; n < 300; n++) {
            PlankUnroll x = new PlankUnroll(2, 2);
            x.point(0, 1, 0, n / 7.0, 0);
            x.point(1, 0, 0, n / 7.0 + n / 3.0, 0);
            x.point(1, 1, 0, n, 0);
            double r = x.distance(0, 0, 1, 0);
            double s = x.distance(0, 1, 1, 0);
            double c = Hulls.root(x.width(0, 0) * x.width(0, 0));
            double t = (r * r - s * s + c * c) / (2 * c);
            x.unroll(0);
            if (r * r - t * t < 0) {
                below++;
                Due.due("h of line " + n, 0.0, () -> x.flat(0, 2, 0));
                Due.due("t of line " + n, t * x.width(0, 0) / c, () -> x.flat(0, 2, 1));
            }
        }
        Due.same("some were rounded to below 0", true, below > 10);
    }

    /** "r = 1 + v, and 40 times r becomes (r + v / r) / 2": not yet the root itself where that is very small. */
    private static void fortySteps() {
        for (double d = 1e-10; d > 1e-14; d /= 1.7) {
            PlankUnroll x = new PlankUnroll(2, 2);
            x.point(1, 1, 0, 0, d);
            double due = Hulls.root(d * d, 40);
            Due.due("40 steps for " + d, due, () -> x.distance(0, 0, 1, 1));
            if (d < 1e-12) {
                Due.same("39 are fewer", true, Hulls.root(d * d, 39) > due);
                Due.same("41 are more", true, Hulls.root(d * d, 41) < due);
            }
        }
    }

    /** "sums begin with 0 and go from the first one on": ROOT(dx * dx + dy * dy + dz * dz). */
    private static void distanceFromTheLeft() {
        int other = 0;
        for (int n = 1; n < 400; n++) {
            PlankUnroll x = new PlankUnroll(2, 2);
            double dx = n / 7.0;
            double dy = -n / 11.0;
            double dz = (400 - n) / 13.0;
            x.point(0, 1, dx, dy, dz);
            double due = Hulls.root(dx * dx + dy * dy + dz * dz);
            Due.due("distance " + n, due, () -> x.distance(0, 0, 0, 1));
            other += Hulls.root(dx * dx + (dy * dy + dz * dz)) != due ? 1 : 0;
        }
        Due.same("some distances depend on the turn: " + other, true, other > 10);
    }

    /** "corner 0 lies at 0, 0; corner 1 at 0, DISTANCE(a, b) of frame 0". */
    private static void firstTwoCorners() {
        PlankUnroll x = new PlankUnroll(3, 3);
        for (int f = 0; f < 3; f++) {
            for (int row = 0; row < 3; row++) {
                x.point(f, row, 5 + f, 1.3 * row, -f - row * row);
            }
        }
        for (int s = 0; s < 2; s++) {
            int strip = s;
            x.unroll(s);
            Due.due("x of corner 0", 0.0, () -> x.flat(strip, 0, 0));
            Due.due("y of corner 0", 0.0, () -> x.flat(strip, 0, 1));
            Due.due("x of corner 1", 0.0, () -> x.flat(strip, 1, 0));
            Due.due("y of corner 1", x.distance(0, s, 0, s + 1), () -> x.flat(strip, 1, 1));
        }
    }

    /** "* and / from the left to the right, before + and -": x is px + t * vx / c + h * vy / c, y likewise. */
    private static void putFromTheLeft() {
        int divided = 0;
        int added = 0;
        int taken = 0;
        for (int n = 1; n < 400; n++) {
            PlankUnroll x = new PlankUnroll(2, 2);
            x.point(0, 1, n / 9.0, 3, 1);
            x.point(1, 0, 2, n / 31.0, n / 5.0);
            x.point(1, 1, n / 12.0, 3.3, n / 6.0);
            x.unroll(0);
            double px = x.flat(0, 2, 0);
            double py = x.flat(0, 2, 1);
            double vx = x.flat(0, 1, 0) - px;
            double vy = x.flat(0, 1, 1) - py;
            double r = x.distance(1, 0, 1, 1);
            double s = x.distance(0, 1, 1, 1);
            double c = Hulls.root(vx * vx + vy * vy);
            double t = (r * r - s * s + c * c) / (2 * c);
            double h = Hulls.root(r * r - t * t);
            double dueX = px + t * vx / c + h * vy / c;
            double dueY = py + t * vy / c - h * vx / c;
            Due.due("x of corner 3, " + n, dueX, () -> x.flat(0, 3, 0));
            Due.due("y of corner 3, " + n, dueY, () -> x.flat(0, 3, 1));
            divided += px + t * (vx / c) + h * (vy / c) != dueX ? 1 : 0;
            added += px + (t * vx / c + h * vy / c) != dueX ? 1 : 0;
            taken += (r * r - (s * s - c * c)) / (2 * c) != t ? 1 : 0;
        }
        Due.same("some depend on * before / " + divided, true, divided > 20);
        Due.same("some depend on the turn of + " + added, true, added > 20);
        Due.same("some depend on the turn of - " + taken, true, taken > 3);
    }

    /** "corner 2 f is PUT from corners 2 f - 2 and 2 f - 1 ..; corner 2 f + 1 from corners 2 f and 2 f - 1 ..". */
    private static void putInTurn() {
        for (int frames = 2; frames <= 8; frames++) {
            PlankUnroll x = new PlankUnroll(frames, 3);
            for (int f = 0; f < frames; f++) {
                for (int row = 0; row < 3; row++) {
                    x.point(f, row, 2.3 * f + row / 7.0, 3.1 * row - f * f / 9.0, (row * f - f) / 5.0);
                }
            }
            for (int s = 0; s < 2; s++) {
                x.unroll(s);
                for (int f = 1; f < frames; f++) {
                    double alongA = x.distance(f - 1, s, f, s);
                    double diagonal = x.distance(f - 1, s + 1, f, s);
                    double across = x.distance(f, s, f, s + 1);
                    double alongB = x.distance(f - 1, s + 1, f, s + 1);
                    putFrom(x, s, 2 * f, 2 * f - 2, 2 * f - 1, alongA, diagonal);
                    putFrom(x, s, 2 * f + 1, 2 * f, 2 * f - 1, across, alongB);
                }
            }
        }
    }

    private static void putFrom(PlankUnroll x, int strip, int corner, int p, int q, double r, double s) {
        double vx = x.flat(strip, q, 0) - x.flat(strip, p, 0);
        double vy = x.flat(strip, q, 1) - x.flat(strip, p, 1);
        double c = Hulls.root(vx * vx + vy * vy);
        double t = (r * r - s * s + c * c) / (2 * c);
        double h = Hulls.root(r * r - t * t);
        double dueX = x.flat(strip, p, 0) + t * vx / c + h * vy / c;
        double dueY = x.flat(strip, p, 1) + t * vy / c - h * vx / c;
        Due.due("x of corner " + corner + ", strip " + strip, dueX, () -> x.flat(strip, corner, 0));
        Due.due("y of corner " + corner + ", strip " + strip, dueY, () -> x.flat(strip, corner, 1));
    }

    /** "If c is below 1 / 1024, the strip can't be UNROLLED": just so much is enough, the next number below is not. */
    private static void leastOfTheFirstPut() {
        PlankUnroll x = Hulls.grid(2, 2);
        int enough = 0;
        int below = 0;
        double y = LEAST_C;
        for (int n = 0; n < 8; n++) {
            y = Math.nextUp(y);
        }
        for (int n = 0; n < 16; n++) {
            double width = Hulls.root(y * y);
            double c = Hulls.root(width * width);
            enough += c == LEAST_C ? 1 : 0;
            below += c == Math.nextDown(LEAST_C) ? 1 : 0;
            x.point(0, 1, 0, y, 0);
            Object due = c < LEAST_C ? Due.STATE : (Object) 2;
            Due.due("places " + y + " apart, c is " + c, due, () -> x.unroll(0));
            y = Math.nextDown(y);
        }
        Due.same("c was just 1 / 1024", true, enough > 0);
        Due.same("c was the next number below", true, below > 0);
        x.point(0, 1, 0, LEAST_C, 0);
        Due.due("places 1 / 1024 apart", 2, () -> x.unroll(0));
    }

    /**
     * The last frame but one, or the last one, brings the corners next to one another from which the last PUT of its
     * kind is made: the least place with which that can be is found by the plain model, to the last bit.
     */
    private static void leastOfPut(int frames, int strip, boolean odd) {
        // An even corner is put from a and b of the frame before it, an odd one from a of its frame and b before it.
        int near = odd ? frames - 1 : frames - 2;
        double fixed = odd ? 3 * near - 2 : 3 * near;
        double can = fixed + 2 * LEAST_C;
        double not = fixed + LEAST_C / 2;
        while (Math.nextUp(not) < can) {
            double middle = not + (can - not) / 2;
            if (canBe(frames, strip, odd, near, middle)) {
                can = middle;
            } else {
                not = middle;
            }
        }
        PlankUnroll x = onALine(frames, strip, odd, near, can);
        PlankUnroll y = onALine(frames, strip, odd, near, not);
        String last = (odd ? "the last corner of " : "the last corner but one of ") + frames + " frames, strip " + strip;
        Due.same(last + " is put from about 1 / 1024", true, Math.abs(can - fixed - LEAST_C) < 1e-12);
        Due.due(last + " can be put", 2 * frames - 2, () -> x.unroll(strip));
        Due.due(last + " can't be put", Due.STATE, () -> y.unroll(strip));
        Due.due("the strip is not unrolled then", Due.STATE, () -> y.flat(strip, 0, 0));
        Due.due("the other strip can be", 2 * frames - 2, () -> y.unroll(1 - strip));
    }

    private static boolean canBe(int frames, int strip, boolean odd, int near, double y) {
        PlainPlanks plain = new PlainPlanks(frames, 3);
        for (int f = 0; f < frames; f++) {
            for (int row = 0; row < 3; row++) {
                double[] place = placeOnALine(f, row, strip, odd, near, y);
                plain.point(f, row, place[0], place[1], 0);
            }
        }
        return plain.unroll(strip) instanceof Integer;
    }

    private static PlankUnroll onALine(int frames, int strip, boolean odd, int near, double y) {
        PlankUnroll x = new PlankUnroll(frames, 3);
        for (int f = 0; f < frames; f++) {
            for (int row = 0; row < 3; row++) {
                double[] place = placeOnALine(f, row, strip, odd, near, y);
                x.point(f, row, place[0], place[1], 0);
            }
        }
        return x;
    }

    /** The strip's rows lie on one line, a of frame f at 3 f and b at 3 f + 1 but for the near one; the third row aside. */
    private static double[] placeOnALine(int f, int row, int strip, boolean odd, int near, double y) {
        if (row != strip && row != strip + 1) {
            return new double[] {9, 3 * f + 1};
        }
        boolean first = row == strip;
        if (f == near && first == odd) {
            return new double[] {0, y};
        }
        return new double[] {0, 3 * f + (first ? 0 : 1)};
    }

    /** "STRETCH: c of corners 2 f and 2 f + 3 (as above) less DISTANCE(a of f, b of f + 1)." */
    private static void stretchToTheLastBit() {
        PlankUnroll x = new PlankUnroll(8, 3);
        for (int f = 0; f < 8; f++) {
            for (int row = 0; row < 3; row++) {
                x.point(f, row, 2.3 * f, 3.1 * row - f * f / 9.0, row * f / 5.0);
            }
        }
        for (int s = 0; s < 2; s++) {
            x.unroll(s);
            for (int cell = 0; cell < 7; cell++) {
                int strip = s;
                int f = cell;
                double vx = x.flat(s, 2 * f + 3, 0) - x.flat(s, 2 * f, 0);
                double vy = x.flat(s, 2 * f + 3, 1) - x.flat(s, 2 * f, 1);
                double due = Hulls.root(vx * vx + vy * vy) - x.distance(f, s, f + 1, s + 1);
                Due.due("stretch " + s + ", " + f, due, () -> x.stretch(strip, f));
            }
        }
    }

    /** Promise 7: "The cell with the greatest size of STRETCH (of several the first)", whichever of both is below 0. */
    private static void worstOfSeveral() {
        int belowFirst = 0;
        int aboveFirst = 0;
        int belowAlone = 0;
        for (int n = 0; n < 3000; n++) {
            PlankUnroll x = new PlankUnroll(8, 2);
            for (int f = 0; f < 8; f++) {
                x.point(f, 0, f + (n * 7 + f * f) % 5 / 16.0, n % 3 / 8.0, 0);
                x.point(f, 1, f + (n * 3 + f) % 7 / 16.0, 2 + n % 11 / 8.0, 0);
            }
            x.unroll(0);
            int due = 0;
            double first = x.stretch(0, 0);
            double last = first;
            for (int cell = 1; cell < 7; cell++) {
                double stretch = x.stretch(0, cell);
                if (Math.abs(stretch) > Math.abs(first)) {
                    due = cell;
                    first = stretch;
                }
                last = Math.abs(stretch) == Math.abs(first) ? stretch : last;
            }
            int worst = due;
            belowFirst += first < 0 && last == -first ? 1 : 0;
            aboveFirst += first > 0 && last == -first ? 1 : 0;
            belowAlone += first < 0 && last == first ? 1 : 0;
            Due.due("worst of plane " + n, worst, () -> x.worst(0));
        }
        Due.same("one below 0 came before one above it", true, belowFirst > 10);
        Due.same("one above 0 came before one below it", true, aboveFirst > 10);
        Due.same("one was below 0 alone", true, belowAlone > 10);
    }

    /** "BEVEL: .. 1 if one of both ROOTS is 0." */
    private static void bevelWithoutRoots() {
        PlankUnroll x = new PlankUnroll(2, 2);
        Due.due("both are 0", 1.0, () -> x.bevel(0, 0));
        x.point(0, 1, 0, 2, 0);
        x.point(1, 0, 0, 5, 0);
        x.point(1, 1, 7, 3, 0);
        Due.due("the first one is 0", 1.0, () -> x.bevel(0, 0));
        x.point(1, 0, 5, 5, 0);
        x.point(1, 1, 10, 8, 0);
        Due.due("the second one is 0", 1.0, () -> x.bevel(0, 0));
        x.point(1, 1, 0, 2, 0);
        Due.due("the second one is 0, b is one place", 1.0, () -> x.bevel(0, 0));
        x.point(1, 1, 4, 0, 0);
        Due.due("neither is 0, one lies over the other", -1.0, () -> Math.rint(x.bevel(0, 0) * 1e9) / 1e9);
    }

    /** A product so small that its square is 0 has no ROOT; a little larger, it has one, and that is by far too large. */
    private static void bevelOfNextToNothing() {
        double[] sizes = {1e-81, 1.1e-81, 1.2e-81, 1.3e-81, 1.5e-81, 1e-80, 1e-75};
        int none = 0;
        int some = 0;
        for (double d : sizes) {
            PlankUnroll x = new PlankUnroll(2, 2);
            x.point(0, 1, 0, d, 0);
            x.point(1, 0, d, 0, 0);
            x.point(1, 1, d, d, 0);
            double u = -d * d;
            double both = Hulls.root(u * u) * Hulls.root(u * u);
            none += both == 0 ? 1 : 0;
            some += both > 0 ? 1 : 0;
            double due = both == 0 ? 1 : u * u / both;
            Due.due("bevel of triangles of " + d, due, () -> x.bevel(0, 0));
        }
        Due.same("some have no root", true, none > 0);
        Due.same("some have one", true, some > 0);
    }

    /** The products and "(u . v) / (ROOT(u . u) * ROOT(v . v))", to the last bit. */
    private static void bevelFromTheLeft() {
        int other = 0;
        for (int n = 1; n < 300; n++) {
            PlankUnroll x = new PlankUnroll(2, 2);
            double[] a0 = {n / 7.0, 1.1, -2.3};
            double[] b0 = {0.4, n / 9.0, 5.1};
            double[] a1 = {-1.7, 2.9, n / 11.0};
            double[] b1 = {n / 13.0, -n / 5.0, 0.6};
            x.point(0, 0, a0[0], a0[1], a0[2]);
            x.point(0, 1, b0[0], b0[1], b0[2]);
            x.point(1, 0, a1[0], a1[1], a1[2]);
            x.point(1, 1, b1[0], b1[1], b1[2]);
            double[] u = product(a0, b0, a1);
            double[] v = product(b0, b1, a1);
            double both = u[0] * v[0] + u[1] * v[1] + u[2] * v[2];
            double rootU = Hulls.root(u[0] * u[0] + u[1] * u[1] + u[2] * u[2]);
            double rootV = Hulls.root(v[0] * v[0] + v[1] * v[1] + v[2] * v[2]);
            double due = both / (rootU * rootV);
            Due.due("bevel " + n, due, () -> x.bevel(0, 0));
            other += both / rootU / rootV != due ? 1 : 0;
            other += (u[0] * v[0] + (u[1] * v[1] + u[2] * v[2])) / (rootU * rootV) != due ? 1 : 0;
        }
        Due.same("some bevels depend on the turn: " + other, true, other > 50);
    }

    private static double[] product(double[] from, double[] one, double[] other) {
        double px = one[0] - from[0];
        double py = one[1] - from[1];
        double pz = one[2] - from[2];
        double qx = other[0] - from[0];
        double qy = other[1] - from[1];
        double qz = other[2] - from[2];
        return new double[] {py * qz - pz * qy, pz * qx - px * qz, px * qy - py * qx};
    }

    /** "GIRTH of a frame the sum of WIDTHS of all strips, in turn": from strip 0 on, the last one too. */
    private static void girthFromTheFirst() {
        int other = 0;
        for (int rows = 2; rows <= 8; rows++) {
            for (int n = 1; n <= 20; n++) {
                PlankUnroll x = new PlankUnroll(2, rows);
                double due = 0;
                for (int row = 1; row < rows; row++) {
                    x.point(1, row, row * row / (n + 2.0), -row / 7.0, row % 3);
                    due = due + x.width(row - 1, 1);
                }
                double last = 0;
                for (int row = rows - 1; row > 0; row--) {
                    last = last + x.width(row - 1, 1);
                }
                double sum = due;
                other += last != sum ? 1 : 0;
                Due.due("girth of " + rows + " rows", sum, () -> x.girth(1));
                Due.due("girth of no widths", 0.0, () -> x.girth(0));
            }
        }
        Due.same("some girths depend on the turn: " + other, true, other > 10);
    }

    /** "They KEEP a span n, if no two of one strip are fewer than 2 n frames apart". */
    private static void keptByOneStrip() {
        for (int n = 1; n <= 8; n++) {
            for (int apart = 1; apart <= 7; apart++) {
                PlankUnroll x = new PlankUnroll(8, 2);
                x.butt(0, 7 - apart, true);
                int span = n;
                Due.due("one alone, span " + n, true, () -> x.spans(span));
                x.butt(0, 7, true);
                Due.due("two of one strip " + apart + " apart, span " + n, apart >= 2 * n, () -> x.spans(span));
            }
        }
        PlankUnroll x = new PlankUnroll(8, 2);
        x.butt(0, 0, true);
        x.butt(0, 1, true);
        x.butt(0, 7, true);
        Due.due("the first two of three", false, () -> x.spans(1));
        x.butt(0, 1, false);
        x.butt(0, 6, true);
        Due.due("the last two of three", false, () -> x.spans(1));
        x.butt(0, 7, false);
        Due.due("two that are 6 apart, span 3", true, () -> x.spans(3));
        Due.due("two that are 6 apart, span 4", false, () -> x.spans(4));
    }

    /** "and none of two strips beside one another fewer than n": not of strips with another one between them. */
    private static void keptBesideOneAnother() {
        for (int n = 1; n <= 8; n++) {
            for (int apart = 0; apart <= 7; apart++) {
                for (int from = 0; from + apart < 8; from++) {
                    beside(n, from, from + apart, apart >= n);
                    beside(n, from + apart, from, apart >= n);
                }
            }
        }
    }

    private static void beside(int n, int one, int other, boolean due) {
        PlankUnroll x = new PlankUnroll(8, 4);
        String butts = "at " + one + " and " + other + ", span " + n;
        x.butt(0, one, true);
        x.butt(2, other, true);
        Due.due("not beside one another, " + butts, true, () -> x.spans(n));
        x.butt(2, other, false);
        x.butt(1, other, true);
        Due.due("beside one another, " + butts, due, () -> x.spans(n));
        x.butt(0, one, false);
        x.butt(2, one, true);
        Due.due("beside one another, the other way round, " + butts, due, () -> x.spans(n));
    }
}
