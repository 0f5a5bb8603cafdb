/** Promise 35: kind. */
public final class Promise35Kind extends Promise {

    public static void main(String[] args) {
        kindsAre1To5();
        fishAreThoseThereAre();
        staysAsTold();
        end();
    }

    private static void kindsAre1To5() {
        Run x = told("l1,0;b1,0;r0;p0;c0;w0;s0;");
        x.tells("kind(0)", 1).tells("kind(1)", 2).tells("kind(2)", 3).tells("kind(3)", 4).tells("kind(4)", 5);
        x = told("l1,0;b1,0;s0;w0;c0;p0;r0;");
        x.tells("kind(0)", 5).tells("kind(1)", 4).tells("kind(2)", 3).tells("kind(3)", 2).tells("kind(4)", 1);
    }

    private static void fishAreThoseThereAre() {
        used().tells("kind(-1)", BAD).tells("kind(3)", BAD).tells("kind(MOST)", BAD).tells("kind(LEAST)", BAD);
        told("l1,0;b1,0;r0;p0;c0;w0;s0;").tells("kind(5)", BAD);
        run().tells("kind(0)", BAD);
        told("l1,0;b1,0;r0;p0;").told("l1,0;b1,0;s0;").tells("kind(0)", 5).tells("kind(1)", BAD);
    }

    private static void staysAsTold() {
        used().tells("kind(0)", 1).tells("kind(1)", 4).tells("kind(2)", 3);
        Run x = told("l1,0;b9,0;b9,0;p0;").tell(0, 8)
                .does("who(0, 0, 0, 0, 0, 1)", "as(0, 1)", "as(0, 0)", "nights(1)");
        x.due("kind(0)", 2);
    }
}
