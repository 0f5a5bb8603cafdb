/** Promise 14: move. */
public final class Promise14Move extends Promise {

    public static void main(String[] args) {
        tellsWhereItWas();
        fishAreThoseThereAre();
        placesAreThoseThereAre();
        isThereAlready();
        aCaughtOneIsState();
        badIsAheadOfState();
        allElseStays();
        isAnAct();
        end();
    }

    private static void tellsWhereItWas() {
        Run x = told("l1,0;b1,0;b2,0;b3,0;b4,0;b5,0;b6,0;w0;s2;").due("move(0, 5)", 0).due("move(0, 3)", 5);
        x.due("move(1, 3)", 2).due("book(3, 5)", 3).due("move(1, 0)", 3).due("fish(0, 0)", 3).due("fish(1, 0)", 0);
    }

    private static void fishAreThoseThereAre() {
        used().tells("move(-1, 2)", BAD).tells("move(3, 2)", BAD).tells("move(MOST, 2)", BAD)
                .tells("move(LEAST, 2)", BAD);
        told("l1,0;b1,0;b2,0;r0;r0;r0;r0;r0;").tells("move(5, 1)", BAD).due("move(4, 1)", 0);
        run().tells("move(0, 0)", BAD).tells("move(0, 1)", BAD);
    }

    private static void placesAreThoseThereAre() {
        used().tells("move(0, -1)", BAD).tells("move(0, 3)", BAD).tells("move(0, MOST)", BAD)
                .tells("move(0, LEAST)", BAD);
        told("l1,0;b1,0;w0;").tells("move(0, 1)", BAD).tells("move(0, 0)", STATE);
        told("l1,0;b1,0;b2,0;b3,0;b4,0;b5,0;b6,0;w0;").tells("move(0, 6)", BAD).due("move(0, 5)", 0);
    }

    private static void isThereAlready() {
        used().tells("move(0, 0)", STATE).tells("move(1, 1)", STATE).due("move(0, 2)", 0).tells("move(0, 2)", STATE);
    }

    private static void aCaughtOneIsState() {
        used().tells("move(2, 0)", STATE).tells("move(2, 1)", STATE).tells("move(2, 2)", STATE);
    }

    private static void badIsAheadOfState() {
        used().tells("move(2, 3)", BAD).tells("move(2, -1)", BAD).tells("move(3, 0)", BAD);
    }

    private static void allElseStays() {
        Run x = told("l2,0;b9,0;b9,0;b9,0;w0;s2;").does("nights(1)").due("move(0, 0)", 1);
        x.due("fish(0, 1)", 2).due("stand(3)", 23).due("count(3)", 1).due("fish(0, 3)", 0).due("fish(1, 0)", 2);
        x.does("nights(1)").due("fish(0, 0)", 1);
    }

    private static void isAnAct() {
        Run x = told("l1,0;b1,0;b2,0;w0;").does("move(0, 1)", "move(0, 0)").due("count(6)", 2).due("undo()", 1);
        x.due("fish(0, 0)", 1).due("undo()", 0).due("fish(0, 0)", 0);
    }
}
