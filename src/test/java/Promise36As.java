/** Promise 36: as, with what section 3 of the terms says of kinds. */
public final class Promise36As extends Promise {

    public static void main(String[] args) {
        eachIsTakenAsWhatItIs();
        elseItIsKind();
        kindsAre0To5();
        fishAreThoseThereAre();
        badIsAheadOfKind();
        aCaughtOneIsTakenToo();
        end();
    }

    private static final String[] ARE = {"01", "012", "013", "04", "045"};

    private static void eachIsTakenAsWhatItIs() {
        Run x = told("l1,0;b1,0;r0;p0;c0;w0;s0;");
        for (int f = 0; f < 5; f++) {
            for (char kind : ARE[f].toCharArray()) {
                x.tells("as(" + f + ", " + kind + ")", f);
            }
        }
    }

    private static void elseItIsKind() {
        Run x = told("l1,0;b1,0;r0;p0;c0;w0;s0;");
        for (int f = 0; f < 5; f++) {
            for (char kind = '0'; kind <= '5'; kind++) {
                if (ARE[f].indexOf(kind) < 0) {
                    x.tells("as(" + f + ", " + kind + ")", KIND);
                }
            }
        }
    }

    private static void kindsAre0To5() {
        used().tells("as(0, 0)", 0).tells("as(0, -1)", BAD).tells("as(0, 6)", BAD);
        used().tells("as(0, MOST)", BAD).tells("as(0, LEAST)", BAD);
        told("l1,0;b1,0;s0;").tells("as(0, 5)", 0).tells("as(0, 6)", BAD);
    }

    private static void fishAreThoseThereAre() {
        used().tells("as(-1, 0)", BAD).tells("as(3, 0)", BAD).tells("as(MOST, 0)", BAD).tells("as(LEAST, 0)", BAD);
        told("l1,0;b1,0;r0;p0;c0;w0;s0;").tells("as(4, 0)", 4).tells("as(5, 0)", BAD);
        run().tells("as(0, 0)", BAD);
    }

    private static void badIsAheadOfKind() {
        used().tells("as(3, 5)", BAD).tells("as(0, 7)", BAD);
    }

    private static void aCaughtOneIsTakenToo() {
        used().tells("as(2, 3)", 2).tells("as(2, 1)", 2).tells("as(2, 0)", 2).tells("as(2, 2)", KIND)
                .tells("as(2, 4)", KIND);
    }
}
