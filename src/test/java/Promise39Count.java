/** Promise 39: count. */
public final class Promise39Count extends Promise {

    public static void main(String[] args) {
        tellsHowMany();
        whatIs0To7();
        withoutALibrary();
        rows();
        booksAndFish();
        nights();
        pagesOfAll();
        dustOfAll();
        acts();
        bytes();
        end();
    }

    private static void tellsHowMany() {
        int[] due = {3, 3, 3, 1, 76, 6, 6, 6};
        for (int what = 0; what < 8; what++) {
            used().tells("count(" + what + ")", due[what]);
        }
    }

    private static void whatIs0To7() {
        used().tells("count(-1)", BAD).tells("count(8)", BAD).tells("count(MOST)", BAD).tells("count(LEAST)", BAD);
        run().tells("count(-1)", BAD).tells("count(8)", BAD);
    }

    private static void withoutALibrary() {
        for (int what = 0; what < 8; what++) {
            run().tells("count(" + what + ")", 0);
        }
        run().does("row(0, 0, 0)", "feed(1)").tells("count(0)", 1).tells("count(7)", 1).tells("count(1)", 0);
    }

    private static void rows() {
        Run x = run();
        for (int row = 0; row < 8; row++) {
            x.does("row(" + row + ", 0, 0)").due("count(0)", row + 1).does("row(" + row + ", 1, 3)")
                    .due("count(0)", row + 1);
        }
        for (int row = 0; row < 8; row++) {
            x.does("drop(" + row + ")").due("count(0)", 7 - row).does("drop(" + row + ")").due("count(0)", 7 - row);
        }
        x.does("row(0, 0, -1)", "row(0, 0, 41)", "row(8, 0, 1)").due("count(0)", 0);
    }

    private static void booksAndFish() {
        told("l1,0;b0,0;r0;").due("count(1)", 1).due("count(2)", 1);
        Run x = told("l1,0;b0,0;b0,0;b0,0;b0,0;b0,0;b0,0;r0;r0;r0;r0;r0;").due("count(1)", 6).due("count(2)", 5);
        x.does("catchIt(0)", "catchIt(4)").due("count(2)", 5);
    }

    private static void nights() {
        told("l1,0;b0,0;r0;").due("count(3)", 0).does("nights(24)").due("count(3)", 24).does("undo()")
                .due("count(3)", 23);
    }

    private static void pagesOfAll() {
        told("l1,0;b99,0;b99,0;b99,0;b99,0;b99,0;b99,0;w0;").due("count(4)", 594).does("nights(1)")
                .due("count(4)", 593);
        told("l1,1;b9,0;b8,0;w0;").does("light(0, 1)", "keepIt(1, 1)").due("count(4)", 17);
    }

    private static void dustOfAll() {
        Run x = told("l3,0;b9,0;b9,0;w0;w0;").due("count(5)", 0).does("nights(1)").due("count(5)", 6);
        x.does("catchIt(0)").due("count(5)", 6).does("nights(1)").due("count(5)", 9);
        told("l9,0;b99,0;b99,0;b99,0;b99,0;b99,0;b99,0;w0;w1;w2;w3;w4;").does("nights(24)").due("count(5)", 594);
    }

    private static void acts() {
        Run x = told("l1,1;b9,0;w0;").due("count(6)", 0).does("nights(23)").due("count(6)", 23);
        x.does("light(0, 1)").due("count(6)", 24).does("light(0, 0)").due("count(6)", 24).does("undo()")
                .due("count(6)", 23);
    }

    private static void bytes() {
        Run x = run();
        for (int k = 1; k <= 122; k++) {
            x.does("feed(108)").due("count(7)", Math.min(k, 120));
        }
        x.does("feed(256)").due("count(7)", 120).does("library()").due("count(7)", 0);
    }
}
