/** Promise 19: ahead. */
public final class Promise19Ahead extends Promise {

    public static void main(String[] args) {
        tellsPagesAndPaste();
        nightsAre0To60();
        whatIs0Or1();
        booksAreThoseThereAre();
        goesOnFromTheNightThatIs();
        beyondNight999();
        end();
    }

    private static void tellsPagesAndPaste() {
        Run x = told("l4,2;b30,5;b60,1;w0;w1;");
        x.tells("ahead(0, 0, 0)", 30).tells("ahead(0, 1, 0)", 26).tells("ahead(0, 3, 0)", 18)
                .tells("ahead(0, 8, 0)", 0);
        x.tells("ahead(1, 0, 1)", 1).tells("ahead(1, 3, 1)", 1).tells("ahead(1, 4, 1)", 2).tells("ahead(1, 8, 1)", 3);
        used().tells("ahead(0, 60, 0)", 28).tells("ahead(0, 60, 1)", 5).tells("ahead(1, 3, 1)", 2);
    }

    private static void nightsAre0To60() {
        Run x = told("l1,0;b99,0;w0;").tells("ahead(0, 0, 0)", 99).tells("ahead(0, 59, 0)", 40)
                .tells("ahead(0, 60, 0)", 39);
        x.tells("ahead(0, 60, 1)", 9).tells("ahead(0, 61, 0)", BAD).tells("ahead(0, -1, 0)", BAD);
        used().tells("ahead(0, 61, 1)", BAD).tells("ahead(0, -1, 1)", BAD);
        used().tells("ahead(0, MOST, 0)", BAD).tells("ahead(0, LEAST, 0)", BAD);
    }

    private static void whatIs0Or1() {
        used().tells("ahead(0, 0, -1)", BAD).tells("ahead(0, 0, 2)", BAD).tells("ahead(0, 0, MOST)", BAD);
        used().tells("ahead(0, 0, LEAST)", BAD);
    }

    private static void booksAreThoseThereAre() {
        used().tells("ahead(-1, 0, 0)", BAD).tells("ahead(3, 0, 0)", BAD).tells("ahead(MOST, 0, 0)", BAD);
        used().tells("ahead(LEAST, 0, 0)", BAD).tells("ahead(2, 0, 0)", 3);
        run().tells("ahead(0, 0, 0)", BAD);
        told("l1,0;b1,0;b1,0;b1,0;b1,0;b1,0;b7,0;w0;").tells("ahead(5, 0, 0)", 7).tells("ahead(6, 0, 0)", BAD);
    }

    private static void goesOnFromTheNightThatIs() {
        Run x = told("l1,0;b0,0;w0;").does("nights(2)").tells("ahead(0, 1, 1)", 0).tells("ahead(0, 2, 1)", 1);
        x.does("nights(1)").tells("ahead(0, 0, 1)", 0).tells("ahead(0, 1, 1)", 1).tells("ahead(0, 5, 1)", 2);
    }

    private static void beyondNight999() {
        Run x = told("l1,1;b0,0;b99,0;w0;").does("keepIt(0, 1)", "light(1, 1)", "nights(15)");
        for (int k = 0; k < 41; k++) {
            x.does("nights(24)");
        }
        x.does("image(0)", "restore(0)", "keepIt(0, 0)", "light(1, 0)").due("count(3)", 999);
        x.tells("nights(1)", FULL).tells("ahead(0, 1, 1)", 1).tells("ahead(0, 5, 1)", 2).tells("ahead(1, 60, 0)", 69);
    }
}
