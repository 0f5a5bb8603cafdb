/** Promise 23: hole. */
public final class Promise23Hole extends Promise {

    public static void main(String[] args) {
        tellsOfWhichItEats();
        nightsAre0To60();
        booksNotPlaces();
        onlyIfItEatsAny();
        aCaughtOneEatsOfNone();
        onlyOfTheNightsToCome();
        fishAreThoseThereAre();
        end();
    }

    private static void tellsOfWhichItEats() {
        Run x = told("l4,2;b3,0;b0,0;b50,0;b50,0;w0;s2;").tells("hole(0, 1)", 0).tells("hole(0, 2)", 4);
        x.tells("hole(0, 3)", 12).tells("hole(0, 4)", 13).tells("hole(0, 60)", 13).tells("hole(1, 60)", 12);
        told("l1,0;b9,0;b9,0;b9,0;b9,0;b9,0;b9,0;w0;").tells("hole(0, 5)", 62).tells("hole(0, 6)", 63);
        used().tells("hole(0, 60)", 4).tells("hole(1, 60)", 0);
    }

    private static void nightsAre0To60() {
        told("l1,0;b9,0;w0;").tells("hole(0, 0)", 0).tells("hole(0, 1)", 1).tells("hole(0, 60)", 1);
        used().tells("hole(0, -1)", BAD).tells("hole(0, 61)", BAD).tells("hole(0, MOST)", BAD)
                .tells("hole(0, LEAST)", BAD);
        // it is at the last BOOK on the 60th night
        told("l1,0;b59,0;b1,0;s0;").tells("hole(0, 59)", 1).tells("hole(0, 60)", 3).tells("hole(0, 61)", BAD);
    }

    private static void booksNotPlaces() {
        told("l1,0;b9,0;b9,0;b9,0;w0;").does("change(1, 2)").tells("hole(0, 1)", 4).tells("hole(0, 2)", 6);
    }

    private static void onlyIfItEatsAny() {
        told("l1,0;b0,0;w0;").tells("hole(0, 60)", 0);
        told("l1,1;b9,0;b9,0;w0;").does("light(0, 1)").tells("hole(0, 60)", 2);
        told("l1,1;b9,0;b9,0;w0;").does("keepIt(1, 1)").tells("hole(0, 60)", 1);
        told("l9,0;b9,0;s0;s0;").tells("hole(0, 60)", 1).tells("hole(1, 60)", 0);
    }

    private static void aCaughtOneEatsOfNone() {
        told("l1,0;b9,0;w0;").does("catchIt(0)").tells("hole(0, 60)", 0).tells("hole(0, 0)", 0);
        used().tells("hole(2, 60)", 0).tells("hole(2, 61)", BAD);
    }

    private static void onlyOfTheNightsToCome() {
        told("l1,0;b9,0;b9,0;b9,0;w0;").does("nights(3)").tells("hole(0, 0)", 0).tells("hole(0, 1)", 2);
        told("l9,0;b9,0;s0;").does("nights(1)").tells("hole(0, 60)", 0).does("undo()").tells("hole(0, 60)", 1);
        told("l1,0;b9,0;b9,0;b9,0;w0;").due("hole(0, 60)", 7).due("hole(0, 1)", 2).due("hole(0, 0)", 0);
    }

    private static void fishAreThoseThereAre() {
        used().tells("hole(-1, 0)", BAD).tells("hole(3, 0)", BAD).tells("hole(MOST, 0)", BAD)
                .tells("hole(LEAST, 0)", BAD);
        run().tells("hole(0, 0)", BAD);
        told("l1,0;b1,0;r0;r0;r0;r0;w0;").tells("hole(4, 1)", 0).tells("hole(5, 1)", BAD);
    }
}
