/** Promise 26: caught. */
public final class Promise26Caught extends Promise {

    public static void main(String[] args) {
        tellsHowManyAndWhich();
        noneIfItLosesNoPages();
        allIfAllEatOfIt();
        ofSeveralTheLeast();
        theFewestNotTheLeast();
        thoseThatAreCaughtAreNotTold();
        nightsAre1To60();
        whatIs0Or1();
        booksAreThoseThereAre();
        end();
    }

    private static void caughtAre(Run x, int book, int n, int many, int which) {
        x.tells("caught(" + book + ", " + n + ", 0)", many).tells("caught(" + book + ", " + n + ", 1)", which);
    }

    private static void tellsHowManyAndWhich() {
        Run x = told("l1,1;b50,9;b10,0;b10,0;r2;w2;s1;");
        caughtAre(x, 0, 1, 1, 2);
        caughtAre(x, 1, 1, 2, 5);
        caughtAre(x, 2, 1, 0, 0);
        caughtAre(x, 0, 60, 3, 7);
        caughtAre(told("l1,0;b10,7;b20,6;b0,0;r1;r0;"), 0, 1, 1, 2);
        caughtAre(told("l1,0;b9,0;b9,0;s1;s1;s1;s1;s0;"), 0, 1, 1, 16);
        caughtAre(told("l1,1;b9,0;b9,0;w0;").does("light(0, 1)"), 1, 1, 1, 1);
        caughtAre(told("l1,1;b9,0;b9,0;b9,0;w0;s2;").does("light(0, 1)", "keepIt(0, 1)"), 1, 1, 1, 1);
    }

    private static void noneIfItLosesNoPages() {
        caughtAre(told("l1,0;b0,0;w0;"), 0, 60, 0, 0);
        caughtAre(told("l1,1;b9,0;w0;").does("light(0, 1)"), 0, 60, 0, 0);
        caughtAre(told("l1,1;b9,0;w0;").does("keepIt(0, 1)"), 0, 60, 0, 0);
        caughtAre(told("l1,1;b9,0;b9,0;w0;"), 0, 1, 0, 0);
    }

    private static void allIfAllEatOfIt() {
        caughtAre(told("l1,0;b99,0;r0;p0;c0;w0;s0;"), 0, 1, 5, 31);
        caughtAre(told("l1,0;b99,0;r0;p0;c0;w0;s0;"), 0, 60, 5, 31);
        caughtAre(told("l1,0;b99,0;w0;"), 0, 1, 1, 1);
    }

    private static void ofSeveralTheLeast() {
        // one scholar less leaves enough of book 1 for the reader to stay there: three ways, the least is told
        caughtAre(told("l5,0;b0,0;b25,0;b30,0;s1;s1;r1;"), 2, 1, 1, 1);
    }

    private static void theFewestNotTheLeast() {
        // both scholars, or the reader by itself, which is more by number
        caughtAre(told("l5,0;b0,0;b20,0;b30,0;s1;s1;r1;"), 2, 1, 1, 4);
        told("l5,0;b0,0;b20,0;b30,0;s1;s1;r1;").does("catchIt(0)", "catchIt(1)").due("nights(1)", 45)
                .due("book(2, 0)", 30);
    }

    private static void thoseThatAreCaughtAreNotTold() {
        Run x = told("l1,1;b50,9;b10,0;b10,0;r2;w2;s1;").does("catchIt(0)");
        caughtAre(x, 1, 1, 1, 4);
        caughtAre(x, 0, 60, 2, 6);
        caughtAre(x.does("catchIt(1)", "catchIt(2)"), 0, 60, 0, 0);
        x.due("stand(2)", 7);
    }

    private static void nightsAre1To60() {
        caughtAre(told("l1,0;b59,0;b9,0;s0;"), 1, 59, 0, 0);
        caughtAre(told("l1,0;b59,0;b9,0;s0;"), 1, 60, 1, 1);
        used().tells("caught(0, 0, 0)", BAD).tells("caught(0, 61, 0)", BAD).tells("caught(0, -1, 1)", BAD);
        used().tells("caught(0, MOST, 0)", BAD).tells("caught(0, LEAST, 0)", BAD);
    }

    private static void whatIs0Or1() {
        used().tells("caught(0, 1, -1)", BAD).tells("caught(0, 1, 2)", BAD);
        used().tells("caught(0, 1, MOST)", BAD).tells("caught(0, 1, LEAST)", BAD);
    }

    private static void booksAreThoseThereAre() {
        used().tells("caught(-1, 1, 0)", BAD).tells("caught(3, 1, 0)", BAD).tells("caught(MOST, 1, 0)", BAD);
        used().tells("caught(LEAST, 1, 0)", BAD).tells("caught(2, 1, 1)", 1);
        run().tells("caught(0, 1, 0)", BAD);
        told("l1,0;b1,0;b1,0;b1,0;b1,0;b1,0;b7,0;s5;").tells("caught(5, 1, 0)", 1).tells("caught(6, 1, 0)", BAD);
    }
}
