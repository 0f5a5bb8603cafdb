/** Promise 24: order. */
public final class Promise24Order extends Promise {

    public static void main(String[] args) {
        tellsPagesAndTheBookInEachPlace();
        ofSeveralTheFirst();
        theLastOfAllOrders();
        takenNow();
        litAndKeptOnesStaySo();
        setsAreOfBooksThereAre();
        nightsAre1To12();
        placesAreFromLess1OnUp();
        noLibraryIsStateAheadOfBad();
        end();
    }

    private static void orderIs(Run x, int set, int n, int pages, int... books) {
        x.tells("order(" + set + ", " + n + ", -1)", pages);
        for (int p = 0; p < books.length; p++) {
            x.tells("order(" + set + ", " + n + ", " + p + ")", books[p]);
        }
    }

    private static void tellsPagesAndTheBookInEachPlace() {
        Run x = told("l9,2;b10,0;b20,0;b30,0;s1;");
        orderIs(x, 7, 1, 51, 0, 1, 2);
        orderIs(x, 2, 1, 20, 0, 2, 1);
        orderIs(x, 1, 1, 10, 0, 1, 2);
        orderIs(x, 6, 1, 50, 1, 0, 2);
        orderIs(told("l9,0;b9,0;w0;"), 1, 1, 0, 0);
        orderIs(told("l1,0;b99,0;b99,0;b99,0;b99,0;b99,0;b99,0;w0;"), 63, 12, 582, 0, 1, 2, 3, 4, 5);
    }

    private static void ofSeveralTheFirst() {
        orderIs(told("l9,0;b10,0;b20,0;b30,0;s1;"), 0, 1, 0, 0, 1, 2);
        orderIs(told("l9,0;b0,0;b0,0;b0,0;s1;"), 7, 12, 0, 0, 1, 2);
        orderIs(told("l9,0;b9,0;b9,0;b9,0;b9,0;s1;"), 8, 1, 9, 0, 1, 2, 3);
        orderIs(told("l9,0;b9,0;b9,0;b9,0;b9,0;s1;"), 2, 1, 9, 0, 2, 1, 3);
    }

    private static void theLastOfAllOrders() {
        orderIs(told("l9,0;b9,0;b5,0;s0;"), 3, 1, 9, 1, 0);
        orderIs(told("l9,0;b26,2;b15,0;b1,2;r0;"), 1, 4, 8, 2, 1, 0);
        orderIs(told("l2,0;b23,7;b6,9;b13,5;b14,7;c0;r3;"), 1, 11, 5, 3, 2, 1, 0);
        orderIs(told("l5,0;b24,8;b10,9;b19,6;b16,8;b9,8;c1;"), 3, 11, 24, 4, 3, 2, 1, 0);
        orderIs(told("l7,0;b28,6;b1,1;b13,0;b12,8;b13,7;b11,4;r0;"), 11, 9, 29, 5, 4, 3, 2, 1, 0);
    }

    private static void takenNow() {
        Run x = told("l9,2;b10,0;b20,0;b30,0;s1;").does("change(0, 2)");
        orderIs(x, 7, 1, 51, 0, 1, 2);
        x.tells("book(0, 2)", 2);
        x = told("l1,0;b9,0;b9,0;w0;").does("nights(1)");
        orderIs(x, 2, 1, 8, 0, 1);
        orderIs(x, 1, 1, 9, 1, 0);
    }

    private static void litAndKeptOnesStaySo() {
        orderIs(told("l9,2;b10,0;b20,0;b30,0;w0;").does("light(2, 1)"), 3, 1, 30, 0, 2, 1);
        orderIs(told("l9,2;b10,0;b20,0;b30,0;s1;").does("light(2, 1)"), 3, 1, 21, 0, 1, 2);
        orderIs(told("l9,2;b10,0;b20,0;w0;").does("keepIt(0, 1)"), 3, 1, 30, 1, 0);
    }

    private static void setsAreOfBooksThereAre() {
        used().tells("order(8, 1, -1)", BAD).tells("order(-1, 1, -1)", BAD).tells("order(9, 1, 0)", BAD);
        used().tells("order(MOST, 1, -1)", BAD).tells("order(LEAST, 1, -1)", BAD);
        String text = "l1,0;";
        for (int books = 1; books <= 6; books++) {
            text += "b9,0;";
            int all = (1 << books) - 1;
            Run x = told(text + "w0;").tells("order(0, 1, -1)", 0).tells("order(0, 1, " + (books - 1) + ")", books - 1);
            x.tells("order(" + all + ", 1, -1)", 9 * books - 1).tells("order(" + (all + 1) + ", 1, -1)", BAD);
        }
    }

    private static void nightsAre1To12() {
        Run x = told("l1,0;b99,0;w0;").tells("order(1, 1, -1)", 98).tells("order(1, 12, -1)", 87);
        x.tells("order(1, 0, -1)", BAD).tells("order(1, 13, -1)", BAD).tells("order(1, -1, -1)", BAD);
        used().tells("order(7, 0, 0)", BAD).tells("order(7, 13, 0)", BAD);
        used().tells("order(7, MOST, -1)", BAD).tells("order(7, LEAST, -1)", BAD);
    }

    private static void placesAreFromLess1OnUp() {
        used().tells("order(7, 1, -2)", BAD).tells("order(7, 1, 3)", BAD).tells("order(0, 1, 3)", BAD);
        used().tells("order(7, 1, MOST)", BAD).tells("order(7, 1, LEAST)", BAD);
        told("l1,0;b9,0;w0;").tells("order(1, 1, 0)", 0).tells("order(1, 1, 1)", BAD);
        told("l1,0;b0,0;b0,0;b0,0;b0,0;b0,0;b0,0;w0;").tells("order(63, 1, 5)", 5).tells("order(63, 1, 6)", BAD);
    }

    private static void noLibraryIsStateAheadOfBad() {
        run().tells("order(0, 1, -1)", STATE).tells("order(1, 1, 0)", STATE).tells("order(-1, 0, -2)", STATE);
        run().tells("order(0, 13, 9)", STATE);
    }
}
