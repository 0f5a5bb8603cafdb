/** Promise 31: dark. */
public final class Promise31Dark extends Promise {

    public static void main(String[] args) {
        tellsAFractionInLowestTerms();
        zeroIs0By1();
        pIs0To10();
        nightsAre0To60();
        eachLampGoesOutApart();
        aKeptOneStaysKept();
        whatIs0Or1();
        booksAreThoseThereAre();
        end();
    }

    private static void darkIs(Run x, int book, int n, int p, long above, long below) {
        x.tells("dark(" + book + ", " + n + ", " + p + ", 0)", above);
        x.tells("dark(" + book + ", " + n + ", " + p + ", 1)", below);
    }

    /** One book that is lit, and eaten whole in a night if it is not. */
    private static Run one() {
        return told("l9,1;b9,0;w0;").does("light(0, 1)");
    }

    private static void tellsAFractionInLowestTerms() {
        int[][] due = {{1, 1}, {9, 10}, {4, 5}, {7, 10}, {3, 5}, {1, 2}, {2, 5}, {3, 10}, {1, 5}, {1, 10}, {0, 1}};
        for (int p = 0; p <= 10; p++) {
            darkIs(one(), 0, 1, p, due[p][0], due[p][1]);
        }
    }

    private static void zeroIs0By1() {
        darkIs(told("l1,0;b0,0;w0;"), 0, 0, 5, 0, 1);
        darkIs(told("l1,1;b0,0;w0;").does("light(0, 1)"), 0, 60, 5, 0, 1);
        darkIs(told("l9,1;b9,0;b9,0;w0;").does("light(0, 1)"), 1, 1, 5, 0, 1);
        darkIs(told("l9,1;b9,0;b9,0;w0;").does("light(0, 1)"), 1, 0, 5, 1, 1);
    }

    private static void pIs0To10() {
        darkIs(one(), 0, 60, 0, 1, 1);
        darkIs(one(), 0, 60, 10, 0, 1);
        darkIs(told("l9,1;b9,0;w0;"), 0, 1, 0, 0, 1);
        used().tells("dark(1, 1, -1, 0)", BAD).tells("dark(1, 1, 11, 0)", BAD).tells("dark(1, 1, 11, 1)", BAD);
        used().tells("dark(1, 1, MOST, 0)", BAD).tells("dark(1, 1, LEAST, 0)", BAD);
    }

    private static void nightsAre0To60() {
        darkIs(one(), 0, 0, 10, 1, 1);
        darkIs(told("l1,1;b60,0;w0;").does("light(0, 1)"), 0, 59, 10, 1, 1);
        darkIs(told("l1,1;b60,0;w0;").does("light(0, 1)"), 0, 60, 10, 0, 1);
        used().tells("dark(1, -1, 1, 0)", BAD).tells("dark(1, 61, 1, 0)", BAD).tells("dark(1, 61, 1, 1)", BAD);
        used().tells("dark(1, MOST, 1, 0)", BAD).tells("dark(1, LEAST, 1, 0)", BAD);
    }

    private static void eachLampGoesOutApart() {
        Run x = told("l9,3;b9,0;b9,0;b9,0;s0;").does("light(0, 1)");
        darkIs(x, 0, 1, 3, 7, 10);
        darkIs(x, 1, 1, 3, 3, 10);
        darkIs(x, 2, 1, 3, 1, 1);
        darkIs(x.does("light(1, 1)", "light(2, 1)"), 2, 2, 3, 79, 100);
        // the last one is eaten on the fifth night if all ahead of it are lit yet, and it is not: 7/10 five times, 3/10
        x = told("l5,6;b9,0;b9,0;b9,0;b9,0;b9,0;b5,0;s0;");
        for (int b = 0; b < 6; b++) {
            x.does("light(" + b + ", 1)");
        }
        darkIs(x, 5, 5, 3, 949579, 1000000);
        darkIs(x, 5, 4, 3, 1, 1);
        darkIs(x, 5, 5, 10, 1, 1);
        darkIs(x, 5, 5, 5, 63, 64);
        x.due("stand(0)", 63);
    }

    private static void aKeptOneStaysKept() {
        darkIs(one().does("keepIt(0, 1)"), 0, 60, 10, 1, 1);
        darkIs(one().does("keepIt(0, 1)"), 0, 60, 3, 1, 1);
    }

    private static void whatIs0Or1() {
        used().tells("dark(1, 1, 1, -1)", BAD).tells("dark(1, 1, 1, 2)", BAD);
        used().tells("dark(1, 1, 1, MOST)", BAD).tells("dark(1, 1, 1, LEAST)", BAD);
    }

    private static void booksAreThoseThereAre() {
        used().tells("dark(-1, 1, 1, 0)", BAD).tells("dark(3, 1, 1, 0)", BAD).tells("dark(MOST, 1, 1, 0)", BAD);
        used().tells("dark(LEAST, 1, 1, 0)", BAD).tells("dark(2, 1, 1, 0)", 1).tells("dark(2, 1, 1, 1)", 1);
        run().tells("dark(0, 1, 1, 0)", BAD).tells("dark(0, 0, 0, 1)", BAD);
    }
}
