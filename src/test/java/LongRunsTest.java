import java.util.Map;
import java.util.TreeMap;

/** Runs of 512 calls, always the same ones, on the class and on PlainPlanks: all promises against one another. */
public final class LongRunsTest {
    private static final int RUNS = 1500;
    private static final int CALLS = 512;
    private static final double[] ODD = {
        Double.NaN, -0.0, 0, -1, 1000, -1000, 1000.125, -1000.125, 0.125, 0.1, 1, 0.999, 1e-100, 1e-200, 1.0 / 1024,
        Double.POSITIVE_INFINITY
    };
    /** Far apart, or so near that a strip can just be unrolled or just not. */
    private static final double[] ENDS = {
        -1000, 1000, 0, 0, 1.0 / 1024, 2.0 / 1024, 0.00098, 1e-5, 1e-10, 1e-80, 0.3, 999.9990234375, 999.99902
    };

    private static long seed;
    private static final Map<String, Integer> SEEN = new TreeMap<>();

    private final PlankUnroll x;
    private final PlainPlanks plain;
    private final int frames;
    private final int rows;
    /** 0: a plane grid, 1: a hull, 2: any places, 3: places at the ends of what they may be. */
    private final int kind;

    private LongRunsTest(int run) {
        seed = run * 7919L + 17;
        kind = below(4);
        frames = below(8) == 0 ? below(14) - 2 : 2 + below(7);
        rows = below(8) == 0 ? below(14) - 2 : 2 + below(7);
        x = new PlankUnroll(frames, rows);
        plain = new PlainPlanks(frames, rows);
    }

    public static void main(String[] args) {
        for (int run = 0; run < RUNS && Due.wrongSoFar() == 0; run++) {
            new LongRunsTest(run).run();
        }
        String[] wanted = {
            "unroll answers", "unroll STATE", "nest -1", "nest 0", "nest far", "nest STATE", "fault false",
            "board STATE", "worst far", "spans true", "spans false", "bevel answers", "stretch STATE"
        };
        for (String each : wanted) {
            Due.same("the runs reach " + each, true, SEEN.getOrDefault(each, 0) > 50);
        }
        System.out.println(SEEN);
        Due.end("LongRunsTest");
    }

    private static int below(int n) {
        seed = seed * 6364136223846793005L + 1442695040888963407L;
        return (int) ((seed >>> 33) % n);
    }

    /** An index below n, now and then a wrong one. */
    private static int index(int n) {
        int odd = below(40);
        return odd == 0 ? -1 : odd == 1 ? n : odd == 2 ? Integer.MAX_VALUE - below(2) : below(Math.max(1, n));
    }

    private static double number(int eighths) {
        return below(50) == 0 ? ODD[below(ODD.length)] : below(eighths) / 8.0;
    }

    private void run() {
        for (int f = 0; f < frames; f++) {
            for (int row = 0; row < rows; row++) {
                place(f, row);
            }
        }
        for (int call = frames * rows; call < CALLS && Due.wrongSoFar() == 0; call++) {
            int which = below(100);
            if (which < 40) {
                ofPlaces(which);
            } else if (which < 85) {
                ofBoards(which);
            } else {
                ofButtsAndStaves(which);
            }
        }
    }

    private void place(int f, int row) {
        if (kind == 3) {
            placeAtTheEnds(f, row, below(2) == 0);
            return;
        }
        double px = f * 2 + (kind == 2 ? number(40) : kind == 1 ? row / 8.0 : below(5) / 8.0);
        double py = row * 1.5 + (kind == 2 ? -number(40) : kind == 1 ? -f * row / 16.0 : below(5) / 8.0);
        double pz = kind == 0 ? 0 : kind == 1 ? (f * f - row * row) / 8.0 : number(30);
        ask("point", plain.point(f, row, px, py, pz), () -> x.point(f, row, px, py, pz));
    }

    private void placeAtTheEnds(int f, int row, boolean onALine) {
        double px = ENDS[below(ENDS.length)];
        double py = onALine ? row : ENDS[below(ENDS.length)];
        double pz = onALine ? 0 : ENDS[below(ENDS.length)];
        ask("point", plain.point(f, row, px, py, pz), () -> x.point(f, row, px, py, pz));
    }

    private void ofPlaces(int which) {
        int f = index(frames);
        int r = index(rows);
        int s = index(rows - 1);
        int cell = index(frames - 1);
        if (which < 1) {
            place(f, r);
        } else if (which < 2) {
            double px = number(60);
            double py = number(60);
            ask("point", plain.point(f, r, px, py, 0), () -> x.point(f, r, px, py, 0));
        } else if (which < 5) {
            int f2 = index(frames);
            int r2 = index(rows);
            ask("distance", plain.distance(f, r, f2, r2), () -> x.distance(f, r, f2, r2));
        } else if (which < 13) {
            int corner = index(2 * frames);
            int axis = index(2);
            ask("flat", plain.flat(s, corner, axis), () -> x.flat(s, corner, axis));
        } else if (which < 19) {
            ask("stretch", plain.stretch(s, cell), () -> x.stretch(s, cell));
        } else if (which < 25) {
            ask("worst", plain.worst(s), () -> x.worst(s));
        } else if (which < 31) {
            ask("bevel", plain.bevel(s, cell), () -> x.bevel(s, cell));
        } else if (which < 36) {
            ask("width", plain.width(s, f), () -> x.width(s, f));
        } else {
            ask("girth", plain.girth(f), () -> x.girth(f));
        }
    }

    private void ofBoards(int which) {
        int s = index(rows - 1);
        int board = below(10) == 0 ? index(4) : below(2);
        if (which < 60) {
            ask("unroll", plain.unroll(s), () -> x.unroll(s));
        } else if (which < 63) {
            double w = 1 + number(400);
            double h = 1 + number(160);
            ask("board", plain.board(w, h), () -> x.board(w, h));
        } else if (which < 67) {
            double fx = number(300);
            double fy = number(40);
            double w = number(20);
            double h = number(20);
            ask("fault", plain.fault(board, fx, fy, w, h), () -> x.fault(board, fx, fy, w, h));
        } else if (which < 77) {
            ask("nest", plain.nest(board, s), () -> x.nest(board, s));
        } else {
            int what = index(2);
            ask("lies", plain.lies(s, what), () -> x.lies(s, what));
        }
    }

    private void ofButtsAndStaves(int which) {
        int s = index(rows - 1);
        int f = index(frames);
        double wide = number(100);
        double diameter = number(400);
        if (which < 90) {
            boolean on = below(4) == 0;
            ask("butt", plain.butt(s, f, on), () -> x.butt(s, f, on));
        } else if (which < 96) {
            int n = below(8) == 0 ? index(9) : 1 + below(3);
            ask("spans", plain.spans(n), () -> x.spans(n));
        } else if (which < 98) {
            ask("staves", plain.staves(wide, diameter), () -> x.staves(wide, diameter));
        } else {
            int n = below(10) == 0 ? below(3) * 50001 - 1 : below(200);
            ask("closes", plain.closes(n, wide, diameter), () -> x.closes(n, wide, diameter));
        }
    }

    private void ask(String call, Object want, Due.Call asking) {
        Due.due(call, want, asking);
        String seen;
        if (want instanceof Class) {
            seen = want == Due.STATE ? "STATE" : want == Due.INDEX ? "INDEX" : "ARGUMENT";
        } else if (want instanceof Integer && call.equals("unroll") || want instanceof Double) {
            seen = "answers";
        } else if (want instanceof Integer && (Integer) want > 0) {
            seen = "far";
        } else {
            seen = want.toString();
        }
        SEEN.merge(call + " " + seen, 1, Integer::sum);
        if (Due.wrongSoFar() > 0) {
            System.out.println("in a run of " + frames + " frames and " + rows + " rows of kind " + kind);
        }
    }
}

