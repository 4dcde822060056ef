import com.sun.management.ThreadMXBean;
import java.lang.management.ManagementFactory;

/**
 * "An object is used for at most 512 calls after it has been made": the last of 512 calls answers as the first one
 * would, of whatever kind the calls before it were, and all of them together leave next to nothing behind.
 */
public final class LengthTest {
    private static final int CALLS = 512;
    /** Far below the room of LANGUAGE.md's rule 12, which is for all calls of one run. */
    private static final long FEW_BYTES = 20_000;

    public static void main(String[] args) {
        places();
        unrolling();
        unrollingAnew();
        nesting();
        nestingInVain();
        butts();
        boards();
        faults();
        staves();
        refusals();
        room();
        Due.end("LengthTest");
    }

    /** Each place told is another one, to the last call but one; what the last one is, the last call answers. */
    private static void places() {
        PlankUnroll x = new PlankUnroll(8, 8);
        for (int n = 1; n < CALLS; n++) {
            int at = n;
            Due.due("point " + n, true, () -> x.point(7, 7, at, 0, 0));
        }
        Due.due("call 512", 511.0, () -> x.distance(7, 7, 0, 0));
    }

    private static void unrolling() {
        PlankUnroll x = Hulls.grid(8, 2);
        for (int n = 17; n < CALLS; n++) {
            Due.due("unroll, call " + n, 14, () -> x.unroll(0));
        }
        Due.due("call 512", x.width(0, 0), () -> x.flat(0, 1, 1));
    }

    private static void unrollingAnew() {
        PlankUnroll x = Hulls.grid(2, 2);
        x.board(100, 100);
        for (int n = 6; n + 4 <= CALLS; n += 4) {
            int at = n % 64 + 1;
            Due.due("point, call " + n, true, () -> x.point(1, 1, 3, 4, at));
            Due.due("nest before unroll", Due.STATE, () -> x.nest(0, 0));
            Due.due("unroll", 2, () -> x.unroll(0));
            Due.due("nest", 0, () -> x.nest(0, 0));
        }
    }

    /** One strip after another on one board, all of them taken off by a place that is told anew, 62 times. */
    private static void nesting() {
        PlankUnroll x = Hulls.strips(4);
        x.board(1.5, 2);
        int calls = 12;
        for (int n = 1; calls + 8 <= CALLS; n++) {
            int at = n;
            Due.due("point", true, () -> x.point(0, 0, 0, at % 2 / 8.0, 0));
            for (int s = 0; s < 3; s++) {
                x.unroll(s);
            }
            Due.due("the first one, round " + n, 0, () -> x.nest(0, 2));
            Due.due("the second one, round " + n, 4, () -> x.nest(0, 1));
            Due.due("lies, round " + n, 4, () -> x.lies(1, 1));
            Due.due("no third one as yet, round " + n, -1, () -> x.lies(0, 0));
            calls += 8;
        }
        Due.same("rounds", CALLS - 4, calls);
        Due.due("the third one", 8, () -> x.nest(0, 0));
    }

    private static void nestingInVain() {
        PlankUnroll x = Hulls.strips(8);
        x.board(1000, 2);
        for (int n = 0; n < 8; n++) {
            x.fault(0, n * 125, 0, 125, 1);
        }
        x.board(1000, 2);
        int calls = 16 + 7 + 10;
        for (int s = 0; s < 6; s++) {
            x.nest(1, s);
            calls++;
        }
        for (int n = calls + 1; n <= CALLS - 2; n++) {
            Due.due("nest without room, call " + n, -1, () -> x.nest(0, 6));
        }
        Due.due("call 511", 24, () -> x.nest(1, 6));
        Due.due("call 512", 24, () -> x.lies(6, 1));
    }

    private static void butts() {
        PlankUnroll x = new PlankUnroll(8, 8);
        for (int n = 0; n < CALLS - 2; n++) {
            boolean on = n / 56 % 2 == 0;
            int strip = n / 8 % 7;
            int frame = n % 8;
            Due.due("butt, call " + (n + 1), true, () -> x.butt(strip, frame, on));
        }
        // 510 is 9 times 56 and 6: six of strip 0 were taken away again.
        Due.due("call 511", false, () -> x.spans(1));
        Due.due("call 512", false, () -> x.butt(0, 5, false));
    }

    private static void boards() {
        PlankUnroll x = new PlankUnroll(2, 2);
        for (int n = 0; n < CALLS - 1; n++) {
            Object due = n < 4 ? (Object) n : Due.STATE;
            Due.due("board, call " + (n + 1), due, () -> x.board(1, 1));
        }
        Due.due("call 512", true, () -> x.fault(3, 0, 0, 1, 1));
    }

    private static void faults() {
        PlankUnroll x = new PlankUnroll(2, 2);
        for (int b = 0; b < 4; b++) {
            x.board(1, 1);
        }
        for (int n = 0; n < CALLS - 4; n++) {
            int board = n % 4;
            Due.due("fault, call " + (n + 5), n < 32, () -> x.fault(board, 0, 0, 1, 1));
        }
    }

    private static void staves() {
        PlankUnroll x = new PlankUnroll(2, 2);
        for (int n = 0; n < CALLS; n += 2) {
            Due.due("staves, call " + (n + 1), 25133, () -> x.staves(0.125, 1000));
            Due.due("closes, call " + (n + 2), 0.125 * 25133 - 1000 * 3.141592653589793,
                () -> x.closes(25133, 0.125, 1000));
        }
    }

    private static void refusals() {
        PlankUnroll x = new PlankUnroll(2, 2);
        for (int n = 1; n < CALLS; n++) {
            int odd = n % 3;
            Object due = odd == 0 ? Due.INDEX : odd == 1 ? Due.ARGUMENT : Due.STATE;
            Due.due("refused, call " + n, due,
                () -> odd == 0 ? x.point(2, 0, 1, 1, 1) : odd == 1 ? x.point(0, 0, 1, 1, 1001) : x.unroll(0));
        }
        Due.due("call 512", false, () -> x.point(0, 0, 0, 0, 0));
    }

    /** LANGUAGE.md: all calls of one run live in one room, so that a call makes nothing, but for a board or a fault. */
    private static void room() {
        ThreadMXBean threads = (ThreadMXBean) ManagementFactory.getThreadMXBean();
        long self = Thread.currentThread().getId();
        long bytes = 0;
        // The first round makes what the machine itself needs for these calls.
        for (int round = 0; round < 2; round++) {
            PlankUnroll x = Hulls.grid(8, 8);
            x.board(1000, 1000);
            long before = threads.getThreadAllocatedBytes(self);
            allKinds(x);
            bytes = threads.getThreadAllocatedBytes(self) - before;
        }
        Due.same("384 calls make " + bytes + " bytes", true, bytes < FEW_BYTES);
    }

    private static void allKinds(PlankUnroll x) {
        int sum = 0;
        for (int n = 0; n < 24; n++) {
            int s = n % 7;
            x.point(7, s + 1, 21, 4 * s + 4, n / 8.0);
            x.fault(0, 900, 0, 1, 1);
            sum += x.unroll(s) + x.worst(s) + x.nest(0, s) + x.lies(s, 1) + x.staves(0.125, 1000);
            double v = x.flat(s, 15, 0) + x.stretch(s, 6) + x.bevel(s, 6) + x.width(s, 7) + x.girth(7);
            v += x.closes(n + 1, 1, 1) + x.distance(0, 0, 7, 7);
            sum += v > 0 ? 1 : 0;
            x.butt(s, n % 8, n % 3 == 0);
            sum += x.spans(1 + n % 8) ? 1 : 0;
        }
        Due.same("all kinds of calls were made", true, sum > 0);
    }
}
