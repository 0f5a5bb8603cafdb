/** Promise 27: grams. */
public final class Promise27Grams extends Promise {

    public static void main(String[] args) {
        eachGetsByItsDust();
        whatIsOverGoesToTheFirst();
        thoseWithoutDustGetNone();
        noneHasAny();
        caughtOnesGetNone();
        gramsAre0To999();
        fishAreThoseThereAre();
        end();
    }

    private static void gramsAre(Run x, int n, int... due) {
        for (int f = 0; f < due.length; f++) {
            x.tells("grams(" + f + ", " + n + ")", due[f]);
        }
    }

    /** Dust 5, 2, 0. */
    private static Run three() {
        return told("l5,0;b7,0;w0;w0;w0;").does("nights(1)");
    }

    private static void eachGetsByItsDust() {
        gramsAre(three(), 7, 5, 2, 0);
        gramsAre(three(), 700, 500, 200, 0);
        gramsAre(told("l1,0;b9,0;w0;").does("nights(1)"), 999, 999);
        gramsAre(told("l9,0;b99,0;w0;w0;w0;w0;w0;").does("nights(1)"), 5, 1, 1, 1, 1, 1);
    }

    private static void whatIsOverGoesToTheFirst() {
        gramsAre(three(), 1, 1, 0, 0);
        gramsAre(three(), 2, 2, 0, 0);
        gramsAre(three(), 10, 8, 2, 0);
        gramsAre(three(), 999, 714, 285, 0);
        Run x = told("l9,0;b99,0;w0;w0;w0;w0;w0;").does("nights(1)");
        gramsAre(x, 4, 1, 1, 1, 1, 0);
        gramsAre(x, 6, 2, 1, 1, 1, 1);
        gramsAre(x, 999, 200, 200, 200, 200, 199);
        x = told("l1,0;b9,0;b9,0;w1;r1;").does("nights(1)");
        gramsAre(x, 5, 3, 2);
        gramsAre(x, 1, 1, 0);
        gramsAre(told("l1,0;b9,0;b9,0;b9,0;w1;r1;s2;").does("nights(1)"), 5, 2, 2, 1);
    }

    private static void thoseWithoutDustGetNone() {
        // dust 0, 3, 3, 2
        Run x = told("l3,0;b0,0;b8,0;b0,0;w1;w0;w0;w0;").does("nights(1)");
        gramsAre(x, 10, 0, 4, 4, 2);
        gramsAre(x, 1, 0, 1, 0, 0);
        gramsAre(x, 999, 0, 375, 375, 249);
    }

    private static void noneHasAny() {
        gramsAre(told("l5,0;b7,0;w0;w0;w0;"), 999, 0, 0, 0);
        gramsAre(told("l5,0;b0,0;w0;").does("nights(24)"), 999, 0);
        gramsAre(three().does("catchIt(0)", "catchIt(1)"), 999, 0, 0, 0);
    }

    private static void caughtOnesGetNone() {
        gramsAre(three().does("catchIt(0)"), 10, 0, 10, 0);
        gramsAre(three().does("catchIt(1)"), 10, 10, 0, 0);
        gramsAre(three().does("catchIt(2)"), 10, 8, 2, 0);
        gramsAre(told("l9,0;b99,0;w0;w0;w0;w0;w0;").does("nights(1)", "catchIt(0)"), 999, 0, 250, 250, 250, 249);
    }

    private static void gramsAre0To999() {
        gramsAre(three(), 0, 0, 0, 0);
        three().tells("grams(0, -1)", BAD).tells("grams(0, 1000)", BAD).tells("grams(2, 1000)", BAD);
        used().tells("grams(0, -1)", BAD).tells("grams(0, 1000)", BAD).tells("grams(2, 1000)", BAD);
        used().tells("grams(0, MOST)", BAD).tells("grams(0, LEAST)", BAD);
    }

    private static void fishAreThoseThereAre() {
        used().tells("grams(-1, 0)", BAD).tells("grams(3, 0)", BAD).tells("grams(MOST, 0)", BAD);
        used().tells("grams(LEAST, 0)", BAD).tells("grams(1, 9)", 4).tells("grams(0, 9)", 5).tells("grams(2, 9)", 0);
        run().tells("grams(0, 0)", BAD);
        told("l1,0;b1,0;r0;r0;r0;r0;w0;").tells("grams(4, 9)", 0).tells("grams(5, 9)", BAD);
    }
}
