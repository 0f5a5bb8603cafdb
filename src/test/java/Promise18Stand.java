/** Promise 18: stand. */
public final class Promise18Stand extends Promise {

    public static void main(String[] args) {
        tellsWhatStands();
        whatIs0To5();
        noLibraryIsStateAheadOfBad();
        leastAndMost();
        end();
    }

    private static void tellsWhatStands() {
        int[] due = {2, 1, 4, 76, 2, 1};
        for (int what = 0; what < 6; what++) {
            used().tells("stand(" + what + ")", due[what]);
        }
    }

    private static void whatIs0To5() {
        used().tells("stand(-1)", BAD).tells("stand(6)", BAD).tells("stand(MOST)", BAD).tells("stand(LEAST)", BAD);
    }

    private static void noLibraryIsStateAheadOfBad() {
        for (int what = -1; what < 7; what++) {
            run().tells("stand(" + what + ")", STATE);
        }
        run().feed("l1,0;b1,0;").does("library()").tells("stand(3)", STATE).tells("stand(9)", STATE);
    }

    private static void leastAndMost() {
        Run x = told("l1,0;b0,0;r0;");
        for (int what = 0; what < 6; what++) {
            x.tells("stand(" + what + ")", what == 4 ? 1 : 0);
        }
        x = told("l9,8;b99,0;b99,0;b99,0;b99,0;b99,0;b99,0;r0;r0;r0;r0;r0;");
        for (int b = 0; b < 6; b++) {
            x.does("light(" + b + ", 1)", "keepIt(" + b + ", 1)", "catchIt(" + b + ")");
        }
        x.due("stand(0)", 63).due("stand(1)", 63).due("stand(2)", 31).due("stand(3)", 594).due("stand(4)", 9);
        x.due("stand(5)", 8);
    }
}
