/** Promise 12: keepIt. */
public final class Promise12KeepIt extends Promise {

    public static void main(String[] args) {
        tellsWhichAreKept();
        booksAreThoseThereAre();
        onIs0Or1();
        isSoAlready();
        allMayBeKept();
        badIsAheadOfState();
        isAnAct();
        end();
    }

    private static void tellsWhichAreKept() {
        Run x = told("l1,0;b9,0;b9,0;b9,0;w0;").due("keepIt(2, 1)", 4).due("keepIt(0, 1)", 5).due("keepIt(1, 1)", 7);
        x.due("keepIt(0, 0)", 6).due("keepIt(2, 0)", 2).due("keepIt(1, 0)", 0).due("stand(1)", 0);
    }

    private static void booksAreThoseThereAre() {
        used().tells("keepIt(-1, 1)", BAD).tells("keepIt(3, 1)", BAD).tells("keepIt(3, 0)", BAD);
        used().tells("keepIt(MOST, 0)", BAD).tells("keepIt(LEAST, 0)", BAD).tells("keepIt(32, 0)", BAD);
        told("l1,8;b9,0;b9,0;b9,0;b9,0;b9,0;b9,0;w0;").tells("keepIt(6, 1)", BAD).due("keepIt(5, 1)", 32);
        run().tells("keepIt(0, 1)", BAD).tells("keepIt(0, 0)", BAD);
    }

    private static void onIs0Or1() {
        used().tells("keepIt(1, 2)", BAD).tells("keepIt(1, -1)", BAD).tells("keepIt(0, 2)", BAD);
        used().tells("keepIt(0, -1)", BAD).tells("keepIt(0, MOST)", BAD).tells("keepIt(0, LEAST)", BAD);
    }

    private static void isSoAlready() {
        used().tells("keepIt(0, 1)", STATE).tells("keepIt(1, 0)", STATE).tells("keepIt(2, 0)", STATE);
    }

    private static void allMayBeKept() {
        Run x = told("l1,0;b9,0;b9,0;b9,0;b9,0;b9,0;b9,0;w0;");
        for (int b = 0; b < 6; b++) {
            x.due("keepIt(" + b + ", 1)", (2 << b) - 1);
        }
        x.tells("keepIt(0, 1)", STATE).due("nights(6)", 54);
        used().due("keepIt(1, 1)", 3).due("stand(0)", 2).due("book(1, 3)", 1).due("book(1, 4)", 1);
    }

    private static void badIsAheadOfState() {
        used().tells("keepIt(3, 0)", BAD).tells("keepIt(0, 3)", BAD).tells("keepIt(-1, 0)", BAD);
    }

    private static void isAnAct() {
        Run x = told("l1,1;b9,0;w0;").does("keepIt(0, 1)", "keepIt(0, 0)").due("count(6)", 2).due("undo()", 1);
        x.due("stand(1)", 1).due("undo()", 0).due("stand(1)", 0);
        used().due("count(6)", 6).due("keepIt(0, 0)", 0).due("count(6)", 7).due("stand(0)", 2).due("stand(3)", 76);
    }
}
