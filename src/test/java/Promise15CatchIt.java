/** Promise 15: catchIt. */
public final class Promise15CatchIt extends Promise {

    public static void main(String[] args) {
        tellsWhichAreCaught();
        fishAreThoseThereAre();
        isCaughtAlready();
        isNowhereForGood();
        allMayBeCaught();
        isAnAct();
        end();
    }

    private static void tellsWhichAreCaught() {
        told("l1,0;b9,0;r0;p0;c0;w0;s0;").due("catchIt(4)", 16).due("catchIt(0)", 17).due("catchIt(2)", 21)
                .due("stand(2)", 21);
    }

    private static void fishAreThoseThereAre() {
        used().tells("catchIt(-1)", BAD).tells("catchIt(3)", BAD).tells("catchIt(MOST)", BAD)
                .tells("catchIt(LEAST)", BAD);
        told("l1,0;b9,0;r0;p0;c0;w0;s0;").tells("catchIt(5)", BAD).tells("catchIt(32)", BAD);
        run().tells("catchIt(0)", BAD);
    }

    private static void isCaughtAlready() {
        used().tells("catchIt(2)", STATE).due("catchIt(0)", 5).tells("catchIt(0)", STATE).tells("catchIt(2)", STATE);
    }

    private static void isNowhereForGood() {
        Run x = told("l1,0;b9,0;b9,0;w0;w0;").does("nights(1)").due("catchIt(0)", 1);
        x.due("fish(0, 0)", NONE).due("fish(0, 1)", 1).due("fish(0, 2)", NONE).due("fish(0, 3)", NONE);
        x.due("book(1, 5)", 2).due("nights(1)", 15).due("nights(1)", 14).due("fish(0, 0)", NONE).due("fish(0, 1)", 1);
        x.tells("move(0, 0)", STATE).due("count(2)", 2);
        told("l1,0;b9,0;r0;").due("fish(0, 2)", 0).due("catchIt(0)", 1).due("fish(0, 2)", NONE);
    }

    private static void allMayBeCaught() {
        Run x = told("l1,0;b9,0;r0;p0;c0;w0;s0;");
        for (int f = 0; f < 5; f++) {
            x.due("catchIt(" + f + ")", (2 << f) - 1);
        }
        x.due("nights(24)", 9).due("count(3)", 24).due("book(0, 1)", 6).due("book(0, 5)", 0).tells("catchIt(4)", STATE);
    }

    private static void isAnAct() {
        Run x = told("l1,0;b9,0;b9,0;w1;").does("nights(2)", "catchIt(0)").due("count(6)", 3).due("undo()", 2);
        x.due("stand(2)", 0).due("fish(0, 0)", 1).due("fish(0, 1)", 2).due("nights(1)", 15);
    }
}
