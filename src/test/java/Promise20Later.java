/** Promise 20: later. */
public final class Promise20Later extends Promise {

    public static void main(String[] args) {
        tellsPlaceAndDust();
        nightsAre0To60();
        whatIs0Or1();
        fishAreThoseThereAre();
        aCaughtOneIsNowhere();
        end();
    }

    private static void tellsPlaceAndDust() {
        Run x = told("l4,2;b30,5;b60,1;w0;s1;");
        x.tells("later(0, 0, 0)", 0).tells("later(0, 1, 0)", 1).tells("later(0, 2, 0)", 0).tells("later(1, 5, 0)", 1);
        x.tells("later(0, 0, 1)", 0).tells("later(0, 1, 1)", 4).tells("later(0, 3, 1)", 12).tells("later(1, 3, 1)", 12);
        x.does("nights(1)").tells("later(0, 0, 0)", 1).tells("later(0, 0, 1)", 4).tells("later(0, 2, 1)", 12);
    }

    private static void nightsAre0To60() {
        Run x = told("l1,0;b99,0;b99,0;w0;").tells("later(0, 60, 0)", 0).tells("later(0, 60, 1)", 60);
        x.tells("later(0, 59, 0)", 1).tells("later(0, 59, 1)", 59).tells("later(0, 61, 0)", BAD);
        x.tells("later(0, 61, 1)", BAD).tells("later(0, -1, 0)", BAD).tells("later(0, -1, 1)", BAD);
        used().tells("later(0, MOST, 0)", BAD).tells("later(0, LEAST, 0)", BAD);
    }

    private static void whatIs0Or1() {
        used().tells("later(0, 0, -1)", BAD).tells("later(0, 0, 2)", BAD).tells("later(2, 0, 2)", BAD);
        used().tells("later(0, 0, MOST)", BAD).tells("later(0, 0, LEAST)", BAD);
    }

    private static void fishAreThoseThereAre() {
        used().tells("later(-1, 0, 0)", BAD).tells("later(3, 0, 0)", BAD).tells("later(MOST, 0, 0)", BAD);
        used().tells("later(LEAST, 0, 0)", BAD);
        run().tells("later(0, 0, 0)", BAD);
        told("l1,0;b1,0;b1,0;r0;r0;r0;r0;s1;").tells("later(4, 60, 0)", 1).tells("later(5, 0, 0)", BAD);
    }

    private static void aCaughtOneIsNowhere() {
        used().tells("later(2, 0, 0)", NONE).tells("later(2, 60, 0)", NONE).tells("later(2, 0, 1)", 2);
        used().tells("later(2, 60, 1)", 2).tells("later(2, 61, 0)", BAD);
    }
}
