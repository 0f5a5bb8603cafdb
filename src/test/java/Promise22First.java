/** Promise 22: first. */
public final class Promise22First extends Promise {

    public static void main(String[] args) {
        tellsWhichAndBehindHowMany();
        ofSeveralTheLeastBook();
        oneOfNoPagesNowIsNotMeant();
        sixtyIsTheLastNight();
        noneIsNone();
        whatIs0Or1();
        noLibraryIsStateAheadOfBad();
        end();
    }

    private static void firstIs(String text, int which, int behind) {
        told(text).tells("first(0)", which).tells("first(1)", behind);
    }

    private static void tellsWhichAndBehindHowMany() {
        firstIs("l4,2;b30,5;b60,1;w0;w1;", 0, 8);
        firstIs("l4,2;b60,5;b30,1;w0;w1;", 1, 8);
        firstIs("l9,0;b9,0;b9,0;w0;", 1, 1);
        firstIs("l1,0;b9,0;b9,0;b9,0;b9,0;b9,0;b1,0;s5;", 5, 1);
        told("l4,2;b30,5;b60,1;w0;w1;").does("nights(3)").tells("first(0)", 0).tells("first(1)", 5);
        used().tells("first(0)", 2).tells("first(1)", 2);
    }

    private static void ofSeveralTheLeastBook() {
        firstIs("l5,0;b10,0;b10,0;w0;w1;", 0, 2);
        firstIs("l5,0;b11,0;b10,0;b10,0;w0;w1;w2;", 1, 2);
        told("l5,0;b10,0;b10,0;w0;w1;").does("change(0, 1)").tells("first(0)", 0).tells("first(1)", 2);
    }

    private static void oneOfNoPagesNowIsNotMeant() {
        firstIs("l5,0;b0,0;b10,0;w0;w1;", 1, 2);
        firstIs("l1,0;b0,0;b0,0;b60,0;s2;", 2, 60);
        told("l5,0;b5,0;b10,0;s0;s1;").does("nights(1)").tells("first(0)", 1).tells("first(1)", 1);
    }

    private static void sixtyIsTheLastNight() {
        firstIs("l1,0;b59,0;w0;", 0, 59);
        firstIs("l1,0;b60,0;w0;", 0, 60);
        firstIs("l1,0;b61,0;w0;", NONE, NONE);
    }

    private static void noneIsNone() {
        firstIs("l1,0;b0,0;b0,0;w0;w1;", NONE, NONE);
        told("l9,1;b9,0;w0;").does("light(0, 1)").tells("first(0)", NONE).tells("first(1)", NONE);
        told("l9,1;b9,0;w0;").does("keepIt(0, 1)").tells("first(0)", NONE).tells("first(1)", NONE);
        told("l9,1;b9,0;b9,0;w0;").does("catchIt(0)").tells("first(0)", NONE).tells("first(1)", NONE);
    }

    private static void whatIs0Or1() {
        used().tells("first(-1)", BAD).tells("first(2)", BAD).tells("first(MOST)", BAD).tells("first(LEAST)", BAD);
        told("l1,0;b0,0;w0;").tells("first(-1)", BAD).tells("first(2)", BAD);
    }

    private static void noLibraryIsStateAheadOfBad() {
        run().tells("first(0)", STATE).tells("first(1)", STATE).tells("first(-1)", STATE).tells("first(2)", STATE);
    }
}
