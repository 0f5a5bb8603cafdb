/** Promise 11: light. */
public final class Promise11Light extends Promise {

    public static void main(String[] args) {
        tellsWhichAreLit();
        booksAreThoseThereAre();
        onIs0Or1();
        isSoAlready();
        asManyAsLampsAreLit();
        withoutLampsNoneIsLit();
        eightLampsAreMoreThanBooks();
        badIsAheadOfState();
        isAnAct();
        end();
    }

    private static void tellsWhichAreLit() {
        Run x = told("l1,8;b9,0;b9,0;b9,0;w0;").due("light(2, 1)", 4).due("light(0, 1)", 5).due("light(1, 1)", 7);
        x.due("light(0, 0)", 6).due("light(2, 0)", 2).due("light(1, 0)", 0).due("stand(0)", 0);
    }

    private static void booksAreThoseThereAre() {
        used().tells("light(-1, 1)", BAD).tells("light(3, 1)", BAD).tells("light(3, 0)", BAD);
        used().tells("light(MOST, 0)", BAD).tells("light(LEAST, 0)", BAD).tells("light(33, 0)", BAD);
        told("l1,8;b9,0;b9,0;b9,0;b9,0;b9,0;b9,0;w0;").tells("light(6, 1)", BAD).due("light(5, 1)", 32);
        run().tells("light(0, 1)", BAD).tells("light(0, 0)", BAD);
    }

    private static void onIs0Or1() {
        used().tells("light(1, 2)", BAD).tells("light(1, -1)", BAD).tells("light(0, 2)", BAD)
                .tells("light(0, -1)", BAD);
        used().tells("light(1, MOST)", BAD).tells("light(1, LEAST)", BAD).due("light(1, 0)", 0);
    }

    private static void isSoAlready() {
        used().tells("light(1, 1)", STATE).tells("light(0, 0)", STATE).tells("light(2, 0)", STATE);
        told("l1,2;b9,0;b9,0;w0;").due("light(0, 1)", 1).tells("light(0, 1)", STATE).tells("light(1, 0)", STATE);
    }

    private static void asManyAsLampsAreLit() {
        used().tells("light(0, 1)", STATE).tells("light(2, 1)", STATE).due("light(1, 0)", 0).due("light(2, 1)", 4);
        Run x = told("l1,5;b9,0;b9,0;b9,0;b9,0;b9,0;b9,0;w0;");
        x.does("light(0, 1)", "light(1, 1)", "light(2, 1)", "light(3, 1)").due("light(5, 1)", 47);
        x.tells("light(4, 1)", STATE).due("light(0, 0)", 46).due("light(4, 1)", 62).tells("light(0, 1)", STATE);
        x.due("undo()", 6).due("light(0, 1)", 47);
    }

    private static void withoutLampsNoneIsLit() {
        told("l1,0;b9,0;b9,0;w0;").tells("light(0, 1)", STATE).tells("light(1, 1)", STATE).tells("light(0, 0)", STATE);
    }

    private static void eightLampsAreMoreThanBooks() {
        Run x = told("l1,8;b9,0;b9,0;b9,0;b9,0;b9,0;b9,0;w0;");
        for (int b = 0; b < 6; b++) {
            x.due("light(" + b + ", 1)", (2 << b) - 1);
        }
        x.due("stand(0)", 63).tells("light(5, 1)", STATE).tells("light(6, 1)", BAD);
    }

    private static void badIsAheadOfState() {
        used().tells("light(3, 1)", BAD).tells("light(1, 3)", BAD);
        told("l1,0;b9,0;w0;").tells("light(1, 1)", BAD).tells("light(0, 2)", BAD);
    }

    private static void isAnAct() {
        Run x = told("l1,1;b9,0;w0;").does("light(0, 1)", "light(0, 0)").due("count(6)", 2).due("undo()", 1);
        x.due("stand(0)", 1).due("undo()", 0).due("stand(0)", 0);
        used().due("count(6)", 6).due("light(1, 0)", 0).due("count(6)", 7).due("stand(1)", 1).due("stand(3)", 76);
    }
}
