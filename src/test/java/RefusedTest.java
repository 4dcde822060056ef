import java.util.ArrayList;
import java.util.List;

/**
 * "A call that throws changes nothing": of two objects that were told the same, one is also asked what is refused, once
 * or over and over; then both are asked, and told, all that shows what they hold. That is asked of an object in each
 * of the states that a refused call may find.
 */
public final class RefusedTest {
    private static final int FRAMES = 3;
    private static final int ROWS = 4;
    /** Frames, rows, strips, corners, cells, axes, boards that are none, of hulls of that size with any boards. */
    private static final int[] NO_FRAME = {-1, FRAMES};
    private static final int[] NO_ROW = {-1, ROWS};
    private static final int[] NO_STRIP = {-1, ROWS - 1};
    private static final int[] NO_CORNER = {-1, 2 * FRAMES};
    private static final int[] NO_CELL = {-1, FRAMES - 1};
    private static final int[] NO_BOARD = {-1, 4};
    private static final double[] NO_COORDINATE = {Math.nextUp(1000.0), Math.nextDown(-1000.0), Double.NaN};
    private static final double[] NO_SIDE = {Math.nextDown(1.0), Math.nextUp(1000.0), Double.NaN};
    private static final double[] NO_FAULT_AT = {-Double.MIN_VALUE, Math.nextUp(1000.0), Double.NaN};
    private static final double[] NO_FAULT_SIDE = {Math.nextDown(0.125), Math.nextUp(1000.0), Double.NaN};
    /** Strip 2 can't be unrolled in any of the states: two of its corners fall together. */
    private static final int STILL = 2;

    private enum State { NEW, TOLD, UNROLLED, BOARDS, NESTED, FULL }

    private interface Asked {
        Object of(PlankUnroll x);
    }

    private record Refusal(String call, Object due, Asked asked) {
    }

    private final State state;
    private final List<Refusal> refusals = new ArrayList<>();

    private RefusedTest(State state) {
        this.state = state;
    }

    public static void main(String[] args) {
        for (State state : State.values()) {
            RefusedTest test = new RefusedTest(state);
            test.ofPlaces();
            test.ofStrips();
            test.ofBoards();
            test.ofNumbers();
            test.ofWhatIsNotUnrolled();
            test.ofWhatLiesOrIsFull();
            test.changeNothing();
        }
        Due.end("RefusedTest");
    }

    private boolean reached(State other) {
        return state.compareTo(other) >= 0;
    }

    private PlankUnroll made() {
        PlankUnroll x = new PlankUnroll(FRAMES, ROWS);
        if (reached(State.TOLD)) {
            for (int f = 0; f < FRAMES; f++) {
                for (int row = 0; row < ROWS; row++) {
                    x.point(f, row, f + row / 8.0, 1.5 * row, f * row / 4.0);
                }
            }
            x.point(1, ROWS - 1, 1.25, 3, 0.5);
            // At the first frame and at the last one, of one strip and not of another one.
            x.butt(0, 0, true);
            x.butt(1, 2, true);
            x.butt(2, 0, true);
            x.butt(2, 2, true);
        }
        if (reached(State.UNROLLED)) {
            x.unroll(0);
            x.unroll(1);
        }
        if (reached(State.BOARDS)) {
            x.board(20, 10);
            x.board(30, 5);
            x.fault(0, 0.5, 0, 1, 1);
        }
        if (reached(State.NESTED)) {
            x.nest(0, 1);
        }
        if (reached(State.FULL)) {
            x.board(3, 3);
            x.board(1000, 1000);
            for (int n = 0; n < 7; n++) {
                x.fault(0, 10 + n, 0, 0.5, 1);
            }
        }
        return x;
    }

    private void index(String call, Asked asked) {
        refusals.add(new Refusal(call, Due.INDEX, asked));
    }

    private void argument(String call, Asked asked) {
        refusals.add(new Refusal(call, Due.ARGUMENT, asked));
    }

    private void state(String call, Asked asked) {
        refusals.add(new Refusal(call, Due.STATE, asked));
    }

    private void ofPlaces() {
        for (int no : NO_FRAME) {
            index("point, frame " + no, x -> x.point(no, 1, 7, 7, 7));
            index("distance, frame " + no, x -> x.distance(no, 0, 0, 0));
            index("distance, frame2 " + no, x -> x.distance(0, 0, no, 0));
            index("width at frame " + no, x -> x.width(0, no));
            index("girth of frame " + no, x -> x.girth(no));
            for (int s = 0; s < ROWS - 1; s++) {
                int strip = s;
                index("butt of strip " + s + " at frame " + no, x -> x.butt(strip, no, true));
                index("no butt of strip " + s + " at frame " + no, x -> x.butt(strip, no, false));
            }
        }
        for (int no : NO_ROW) {
            index("point, row " + no, x -> x.point(1, no, 7, 7, 7));
            index("distance, row " + no, x -> x.distance(0, no, 0, 0));
            index("distance, row2 " + no, x -> x.distance(0, 0, 0, no));
        }
        for (double no : NO_COORDINATE) {
            for (int f = 0; f < FRAMES; f++) {
                int frame = f;
                argument("point, x " + no, x -> x.point(frame, 1, no, 7, 7));
                argument("point, y " + no, x -> x.point(frame, 2, 7, no, 7));
                argument("point, z " + no, x -> x.point(frame, 3, 7, 7, no));
            }
        }
    }

    private void ofStrips() {
        for (int no : NO_STRIP) {
            index("unroll " + no, x -> x.unroll(no));
            index("flat of strip " + no, x -> x.flat(no, 0, 0));
            index("stretch of strip " + no, x -> x.stretch(no, 0));
            index("worst of strip " + no, x -> x.worst(no));
            index("bevel of strip " + no, x -> x.bevel(no, 0));
            index("width of strip " + no, x -> x.width(no, 0));
            for (int f = 0; f < FRAMES; f++) {
                int frame = f;
                index("butt of strip " + no + " at frame " + f, x -> x.butt(no, frame, true));
                index("no butt of strip " + no + " at frame " + f, x -> x.butt(no, frame, false));
            }
            index("lies of strip " + no, x -> x.lies(no, 0));
        }
        for (int no : NO_CORNER) {
            index("flat of corner " + no, x -> x.flat(0, no, 0));
        }
        for (int no : NO_CELL) {
            index("stretch of cell " + no, x -> x.stretch(0, no));
            index("bevel of cell " + no, x -> x.bevel(0, no));
        }
        int[] noneOfTwo = {-1, 2};
        for (int no : noneOfTwo) {
            index("flat on axis " + no, x -> x.flat(0, 0, no));
            index("lies, what " + no, x -> x.lies(0, no));
        }
    }

    private void ofBoards() {
        for (double no : NO_SIDE) {
            argument("board, w " + no, x -> x.board(no, 5));
            argument("board, h " + no, x -> x.board(5, no));
        }
        for (int no : NO_BOARD) {
            index("fault of board " + no, x -> x.fault(no, 0, 0, 5, 5));
            for (int s = 0; s < ROWS - 1; s++) {
                int strip = s;
                index("nest on board " + no, x -> x.nest(no, strip));
            }
        }
        if (!reached(State.BOARDS)) {
            index("fault of no board", x -> x.fault(0, 0, 0, 5, 5));
            index("nest on no board", x -> x.nest(0, 0));
            return;
        }
        for (int no : NO_STRIP) {
            index("nest of strip " + no, x -> x.nest(0, no));
        }
        for (int b = 0; b < 2; b++) {
            int board = b;
            for (double no : NO_FAULT_AT) {
                argument("fault, x " + no, x -> x.fault(board, no, 0, 9, 9));
                argument("fault, y " + no, x -> x.fault(board, 0, no, 9, 9));
            }
            for (double no : NO_FAULT_SIDE) {
                argument("fault, w " + no, x -> x.fault(board, 0, 0, no, 9));
                argument("fault, h " + no, x -> x.fault(board, 0, 0, 9, no));
            }
        }
    }

    private void ofNumbers() {
        argument("spans 0", x -> x.spans(0));
        argument("spans 9", x -> x.spans(9));
        argument("staves, wide", x -> x.staves(0, 1));
        argument("staves, diameter", x -> x.staves(1, -1));
        argument("closes, n 0", x -> x.closes(0, 1, 1));
        argument("closes, n 100001", x -> x.closes(100001, 1, 1));
        argument("closes, wide", x -> x.closes(1, 1001, 1));
        argument("closes, diameter", x -> x.closes(1, 1, 1001));
    }

    private void ofWhatIsNotUnrolled() {
        for (int s = reached(State.UNROLLED) ? STILL : 0; s < ROWS - 1; s++) {
            int strip = s;
            state("flat of strip " + s, x -> x.flat(strip, 0, 0));
            state("stretch of strip " + s, x -> x.stretch(strip, 0));
            state("worst of strip " + s, x -> x.worst(strip));
            if (state == State.NEW || s == STILL) {
                state("unroll " + s, x -> x.unroll(strip));
            }
            if (reached(State.BOARDS)) {
                state("nest of strip " + s + " on board 0", x -> x.nest(0, strip));
                state("nest of strip " + s + " on board 1", x -> x.nest(1, strip));
            }
        }
    }

    private void ofWhatLiesOrIsFull() {
        if (reached(State.NESTED)) {
            state("nest where it lies", x -> x.nest(0, 1));
            state("nest on another board", x -> x.nest(1, 1));
        }
        if (reached(State.FULL)) {
            state("a fifth board", x -> x.board(5, 5));
        }
    }

    private void changeNothing() {
        List<Object> due = held(made());
        Due.same(state + ": two objects that were told the same answer the same", due, held(made()));
        for (Refusal each : refusals) {
            PlankUnroll x = made();
            Due.due(state + ": " + each.call, each.due, () -> each.asked.of(x));
            Due.same(state + ": after " + each.call, due, held(x));
        }
        PlankUnroll all = made();
        for (Refusal each : refusals) {
            Due.due(state + ": in turn, " + each.call, each.due, () -> each.asked.of(all));
        }
        Due.same(state + ": after all of them", due, held(all));
        // What an object answers after its 512th call is free: 40 is more than any state takes to be made.
        Due.same(state + ": no object was asked too often", true, refusals.size() + due.size() + 40 <= 512);
    }

    private static void ask(List<Object> answers, Due.Call asked) {
        answers.add(Due.answerOf(asked));
    }

    /** What shows what an object holds: first what changes nothing, then what tells more and so shows the rest. */
    private static List<Object> held(PlankUnroll x) {
        List<Object> answers = new ArrayList<>();
        askPlaces(answers, x);
        askStrips(answers, x);
        for (int n = 1; n <= 8; n++) {
            int span = n;
            ask(answers, () -> x.spans(span));
        }
        tellStrips(answers, x);
        tellBoards(answers, x);
        return answers;
    }

    private static void askPlaces(List<Object> answers, PlankUnroll x) {
        for (int i = 0; i < FRAMES * ROWS; i++) {
            int f = i / ROWS;
            int row = i % ROWS;
            for (int j = 0; j < i; j++) {
                int f2 = j / ROWS;
                int row2 = j % ROWS;
                ask(answers, () -> x.distance(f, row, f2, row2));
            }
        }
        for (int f = 0; f < FRAMES; f++) {
            int frame = f;
            ask(answers, () -> x.girth(frame));
        }
    }

    private static void askStrips(List<Object> answers, PlankUnroll x) {
        for (int s = 0; s < ROWS - 1; s++) {
            int strip = s;
            for (int c = 0; c < 2 * FRAMES; c++) {
                int corner = c;
                ask(answers, () -> x.flat(strip, corner, 0));
                ask(answers, () -> x.flat(strip, corner, 1));
            }
            for (int f = 0; f < FRAMES - 1; f++) {
                int cell = f;
                ask(answers, () -> x.stretch(strip, cell));
                ask(answers, () -> x.bevel(strip, cell));
            }
            ask(answers, () -> x.worst(strip));
            ask(answers, () -> x.width(strip, 0));
            ask(answers, () -> x.lies(strip, 0));
            ask(answers, () -> x.lies(strip, 1));
        }
    }

    private static void tellStrips(List<Object> answers, PlankUnroll x) {
        for (int s = 0; s < ROWS - 1; s++) {
            int strip = s;
            for (int f = 0; f < FRAMES; f++) {
                int frame = f;
                ask(answers, () -> x.butt(strip, frame, true));
            }
            for (int b = 3; b >= 0; b--) {
                int board = b;
                ask(answers, () -> x.nest(board, strip));
            }
        }
        for (int s = 0; s < ROWS - 1; s++) {
            int strip = s;
            ask(answers, () -> x.unroll(strip));
            ask(answers, () -> x.flat(strip, 3, 0));
        }
    }

    /** Four boards and eight faults on each are told: what is answered shows how many were told before. */
    private static void tellBoards(List<Object> answers, PlankUnroll x) {
        for (int b = 0; b <= 4; b++) {
            ask(answers, () -> x.board(40, 40));
        }
        for (int b = 0; b < 4; b++) {
            int board = b;
            for (int n = 0; n <= 8; n++) {
                ask(answers, () -> x.fault(board, 900, 900, 1, 1));
            }
        }
        for (int s = 0; s < ROWS - 1; s++) {
            int strip = s;
            for (int b = 0; b < 4; b++) {
                int board = b;
                ask(answers, () -> x.nest(board, strip));
            }
            ask(answers, () -> x.lies(strip, 1));
        }
        ask(answers, () -> x.point(2, 3, 999, 999, 999));
    }
}
