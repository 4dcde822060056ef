/** Promises 11 and 12: butt, spans. */
public final class ButtsTest {
    private static final int[] NONE_SUCH = {-1, Integer.MIN_VALUE, Integer.MAX_VALUE};

    public static void main(String[] args) {
        buttAnswers();
        buttThrows();
        oneStrip();
        besideStrips();
        farStrips();
        allStrips();
        spansThrows();
        buttsStay();
        Due.end("ButtsTest");
    }

    private static void buttAnswers() {
        PlankUnroll x = new PlankUnroll(3, 3);
        Due.due("none taken away", false, () -> x.butt(0, 0, false));
        Due.due("one told", true, () -> x.butt(0, 0, true));
        Due.due("told again", false, () -> x.butt(0, 0, true));
        Due.due("at another frame", true, () -> x.butt(0, 2, true));
        Due.due("of another strip", true, () -> x.butt(1, 0, true));
        Due.due("taken away", true, () -> x.butt(0, 0, false));
        Due.due("taken away again", false, () -> x.butt(0, 0, false));
        Due.due("the other one is there", false, () -> x.butt(0, 2, true));
        Due.due("told once more", true, () -> x.butt(0, 0, true));
    }

    private static void buttThrows() {
        PlankUnroll x = new PlankUnroll(3, 4);
        for (int none : NONE_SUCH) {
            Due.due("strip " + none, Due.INDEX, () -> x.butt(none, 0, true));
            Due.due("frame " + none, Due.INDEX, () -> x.butt(0, none, false));
        }
        Due.due("strip 3", Due.INDEX, () -> x.butt(3, 0, true));
        Due.due("frame 3", Due.INDEX, () -> x.butt(0, 3, true));
        Due.due("the last of both", true, () -> x.butt(2, 2, true));
    }

    /** Two of one strip keep n if they are 2 n or more apart. */
    private static void oneStrip() {
        for (int from = 0; from < 8; from++) {
            for (int to = from; to < 8; to++) {
                PlankUnroll x = new PlankUnroll(8, 2);
                x.butt(0, from, true);
                x.butt(0, to, true);
                for (int n = 1; n <= 8; n++) {
                    int span = n;
                    boolean due = from == to || to - from >= 2 * n;
                    Due.due("one strip " + from + ", " + to + " spans " + n, due, () -> x.spans(span));
                }
            }
        }
        PlankUnroll three = new PlankUnroll(8, 3);
        three.butt(1, 0, true);
        three.butt(1, 4, true);
        three.butt(1, 7, true);
        Due.due("three spans 1", true, () -> three.spans(1));
        Due.due("three spans 2: the last two are 3 apart", false, () -> three.spans(2));
        three.butt(1, 7, false);
        Due.due("two spans 2", true, () -> three.spans(2));
    }

    /** Two of strips beside one another keep n if they are n or more apart. */
    private static void besideStrips() {
        for (int one = 0; one < 8; one++) {
            for (int other = 0; other < 8; other++) {
                PlankUnroll x = new PlankUnroll(8, 4);
                x.butt(1, one, true);
                x.butt(2, other, true);
                for (int n = 1; n <= 8; n++) {
                    int span = n;
                    boolean due = Math.abs(one - other) >= n;
                    Due.due("beside " + one + ", " + other + " spans " + n, due, () -> x.spans(span));
                }
            }
        }
    }

    private static void farStrips() {
        PlankUnroll x = new PlankUnroll(8, 8);
        x.butt(0, 3, true);
        x.butt(2, 3, true);
        x.butt(4, 3, true);
        x.butt(6, 3, true);
        Due.due("no two beside one another", true, () -> x.spans(8));
        x.butt(5, 6, true);
        Due.due("beside two, 3 apart, spans 3", true, () -> x.spans(3));
        Due.due("spans 4", false, () -> x.spans(4));
    }

    private static void allStrips() {
        for (int s = 0; s < 7; s++) {
            PlankUnroll x = new PlankUnroll(8, 8);
            int strip = s;
            x.butt(s, 0, true);
            x.butt(s, 1, true);
            Due.due("strip " + s + " counts", false, () -> x.spans(1));
            x.butt(s, 1, false);
            Due.due("strip " + s + " keeps", true, () -> x.spans(1));
            if (s < 6) {
                x.butt(s + 1, 0, true);
                Due.due("strips " + s + " and the next count", false, () -> x.spans(1));
            }
            Due.due("it is there", false, () -> x.butt(strip, 0, true));
        }
    }

    private static void spansThrows() {
        PlankUnroll x = new PlankUnroll(8, 8);
        int[] wrong = {0, 9, -1, Integer.MIN_VALUE, Integer.MAX_VALUE, 1 << 30};
        for (int n : wrong) {
            Due.due("spans " + n, Due.ARGUMENT, () -> x.spans(n));
        }
        Due.due("spans 1", true, () -> x.spans(1));
        Due.due("spans 8", true, () -> x.spans(8));
    }

    private static void buttsStay() {
        PlankUnroll x = new PlankUnroll(3, 3);
        x.butt(0, 1, true);
        x.point(1, 0, 5, 5, 5);
        Due.due("a place takes no butt away", false, () -> x.butt(0, 1, true));
    }
}
