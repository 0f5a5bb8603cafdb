/** Promise 16: book. */
public final class Promise16Book extends Promise {

    public static void main(String[] args) {
        tellsWhatIsOfABook();
        booksAreThoseThereAre();
        whatIs0To5();
        leastAndMost();
        fishInItsPlace();
        end();
    }

    private static void tellsWhatIsOfABook() {
        int[][] due = {{28, 5, 2, 0, 1, 0}, {45, 1, 1, 1, 0, 2}, {3, 9, 0, 0, 0, 1}};
        for (int b = 0; b < 3; b++) {
            for (int what = 0; what < 6; what++) {
                used().tells("book(" + b + ", " + what + ")", due[b][what]);
            }
        }
    }

    private static void booksAreThoseThereAre() {
        used().tells("book(-1, 0)", BAD).tells("book(3, 0)", BAD).tells("book(MOST, 0)", BAD)
                .tells("book(LEAST, 0)", BAD);
        for (int what = -1; what < 7; what++) {
            run().tells("book(0, " + what + ")", BAD);
        }
        told("l1,0;b1,0;b1,0;b1,0;b1,0;b1,0;b7,0;w0;").tells("book(5, 0)", 7).tells("book(6, 0)", BAD);
    }

    private static void whatIs0To5() {
        used().tells("book(0, -1)", BAD).tells("book(0, 6)", BAD).tells("book(0, MOST)", BAD)
                .tells("book(0, LEAST)", BAD);
    }

    private static void leastAndMost() {
        told("l1,0;b0,0;w0;").tells("book(0, 0)", 0).tells("book(0, 1)", 0).tells("book(0, 2)", 0);
        Run x = told("l1,1;b99,9;w0;").tells("book(0, 0)", 99).tells("book(0, 1)", 9);
        x.does("light(0, 1)", "keepIt(0, 1)").tells("book(0, 3)", 1).tells("book(0, 4)", 1);
    }

    private static void fishInItsPlace() {
        Run x = told("l1,0;b9,0;b9,0;r0;p0;c0;w0;s0;").tells("book(0, 5)", 31).tells("book(1, 5)", 0);
        x.does("change(0, 1)").tells("book(0, 5)", 0).tells("book(1, 5)", 31);
        x.does("move(4, 1)", "catchIt(0)").tells("book(0, 5)", 16).tells("book(1, 5)", 14);
    }
}
