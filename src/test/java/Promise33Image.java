/** Promise 33: image. */
public final class Promise33Image extends Promise {

    public static void main(String[] args) {
        imagesAre0And1();
        noLibraryIsStateBehindBad();
        keepsAllOfTheLibrary();
        standsInPlaceOfTheOneBefore();
        whatComesBehindIsNotKept();
        isNoActAndForgetsNone();
        end();
    }

    private static void imagesAre0And1() {
        told("l1,0;b1,0;r0;").due("image(0)", 1).due("image(1)", 1).due("restore(0)", 1).due("restore(1)", 1);
        used().tells("image(-1)", BAD).tells("image(2)", BAD).tells("image(MOST)", BAD).tells("image(LEAST)", BAD);
    }

    private static void noLibraryIsStateBehindBad() {
        run().tells("image(0)", STATE).tells("image(1)", STATE).tells("image(-1)", BAD).tells("image(2)", BAD);
        run().does("image(0)", "image(1)").tells("restore(0)", STATE).tells("restore(1)", STATE);
        run().feed("l1").does("library()").tells("image(0)", STATE);
    }

    private static void keepsAllOfTheLibrary() {
        Run x = used().due("image(1)", 1).does("library()").told("l9,0;b1,0;b1,0;b1,0;b1,0;p0;s3;w2;r1;")
                .due("restore(1)", 1);
        int[] stand = {2, 1, 4, 76, 2, 1};
        int[][] books = {{28, 5, 2, 0, 1, 0}, {45, 1, 1, 1, 0, 2}, {3, 9, 0, 0, 0, 1}};
        int[][] fish = {{0, 2, 0, 2}, {1, 2, NONE, 1}, {NONE, 2, NONE, NONE}};
        for (int what = 0; what < 6; what++) {
            x.due("stand(" + what + ")", stand[what]);
            for (int b = 0; b < 3; b++) {
                x.due("book(" + b + ", " + what + ")", books[b][what]);
            }
        }
        for (int f = 0; f < 3; f++) {
            for (int what = 0; what < 4; what++) {
                x.due("fish(" + f + ", " + what + ")", fish[f][what]);
            }
        }
        x.due("count(1)", 3).due("count(2)", 3).due("count(3)", 1).due("kind(0)", 1).due("kind(1)", 4)
                .due("kind(2)", 3);
        x.due("ask(2, 1)", -996).tells("book(3, 0)", BAD).tells("fish(3, 0)", BAD);
    }

    private static void standsInPlaceOfTheOneBefore() {
        Run x = told("l1,0;b9,0;w0;").due("image(0)", 1).due("image(1)", 1).does("nights(2)").due("image(0)", 1);
        x.does("nights(1)").due("restore(0)", 1).due("count(3)", 2).due("stand(3)", 7);
        x.due("restore(1)", 1).due("count(3)", 0).due("stand(3)", 9);
    }

    private static void whatComesBehindIsNotKept() {
        Run x = told("l1,1;b9,0;b9,0;w0;").due("image(1)", 1);
        x.does("nights(3)", "light(0, 1)", "keepIt(1, 1)", "change(0, 1)", "move(0, 0)", "catchIt(0)")
                .due("restore(1)", 1);
        x.due("stand(0)", 0).due("stand(1)", 0).due("stand(2)", 0).due("stand(3)", 18).due("book(0, 2)", 0);
        x.due("fish(0, 0)", 0).due("fish(0, 1)", 0).due("count(3)", 0).tells("restore(0)", STATE);
    }

    private static void isNoActAndForgetsNone() {
        used().due("image(1)", 1).due("count(6)", 6).due("undo()", 5).due("stand(2)", 0);
        Run x = used().due("image(1)", 1).due("status()", 3).due("fault()", 2).due("trace(0)", 11).due("count(7)", 6);
        x.due("count(0)", 3).due("stand(3)", 76);
    }
}
