/** Promise 17: fish. */
public final class Promise17Fish extends Promise {

    public static void main(String[] args) {
        tellsWhatIsOfAFish();
        fishAreThoseThereAre();
        whatIs0To3();
        aCaughtOneIsNowhere();
        likedIsAPlace();
        likedByNone();
        end();
    }

    private static void tellsWhatIsOfAFish() {
        // the reader's book is kept, the next one is lit: it likes what is in its place
        int[][] due = {{0, 2, 0, 2}, {1, 2, NONE, 1}, {NONE, 2, NONE, NONE}};
        for (int f = 0; f < 3; f++) {
            for (int what = 0; what < 4; what++) {
                used().tells("fish(" + f + ", " + what + ")", due[f][what]);
            }
        }
    }

    private static void fishAreThoseThereAre() {
        used().tells("fish(-1, 0)", BAD).tells("fish(3, 0)", BAD).tells("fish(MOST, 0)", BAD)
                .tells("fish(LEAST, 0)", BAD);
        for (int what = -1; what < 5; what++) {
            run().tells("fish(0, " + what + ")", BAD);
        }
        told("l1,0;b1,0;b1,0;r0;r0;r0;r0;r1;").tells("fish(4, 0)", 1).tells("fish(5, 0)", BAD);
    }

    private static void whatIs0To3() {
        used().tells("fish(0, -1)", BAD).tells("fish(0, 4)", BAD).tells("fish(2, 4)", BAD).tells("fish(2, -1)", BAD);
        used().tells("fish(0, MOST)", BAD).tells("fish(0, LEAST)", BAD);
    }

    private static void aCaughtOneIsNowhere() {
        Run x = told("l3,0;b9,0;r0;").does("nights(2)", "catchIt(0)");
        x.tells("fish(0, 0)", NONE).tells("fish(0, 1)", 6).tells("fish(0, 2)", NONE).tells("fish(0, 3)", NONE);
        x.does("undo()").tells("fish(0, 0)", 0).tells("fish(0, 2)", 0).tells("fish(0, 3)", 0);
    }

    private static void likedIsAPlace() {
        Run x = told("l1,1;b9,0;b9,0;b9,5;r0;p0;c0;");
        x.tells("fish(0, 2)", 2).tells("fish(1, 2)", 2).tells("fish(2, 2)", 2).does("change(2, 0)");
        x.tells("fish(0, 2)", 0).tells("fish(1, 2)", 0).tells("fish(2, 2)", 0);
        x.does("light(2, 1)").tells("fish(0, 2)", 1).tells("fish(2, 2)", 1);
        told("l1,1;b9,0;b9,0;b9,2;b9,1;r0;p0;").tells("fish(0, 2)", 0).tells("fish(1, 2)", 2);
    }

    private static void likedByNone() {
        told("l1,0;b9,9;w0;s0;").tells("fish(0, 2)", NONE).tells("fish(1, 2)", NONE);
        Run x = told("l1,1;b9,9;b9,9;b0,9;r0;p1;c2;").does("light(0, 1)", "keepIt(1, 1)");
        x.tells("fish(0, 2)", NONE).tells("fish(1, 2)", NONE).tells("fish(2, 2)", NONE);
    }
}
