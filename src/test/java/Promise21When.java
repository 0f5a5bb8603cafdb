/** Promise 21: when. */
public final class Promise21When extends Promise {

    public static void main(String[] args) {
        tellsBehindHowManyNights();
        nowIsBehindNone();
        sixtyIsTheLastNight();
        neverIsNone();
        booksAreThoseThereAre();
        end();
    }

    private static void tellsBehindHowManyNights() {
        told("l4,2;b30,5;b60,1;w0;w1;").tells("when(0)", 8).tells("when(1)", 15);
        told("l4,2;b30,5;b60,1;w0;w1;").does("nights(3)").tells("when(0)", 5).tells("when(1)", 12);
        told("l9,0;b9,0;b9,0;w0;").tells("when(0)", 2).tells("when(1)", 1);
        told("l9,0;b10,0;w0;").tells("when(0)", 2);
    }

    private static void nowIsBehindNone() {
        told("l1,0;b0,0;w0;").tells("when(0)", 0).does("nights(5)").tells("when(0)", 0);
        told("l1,1;b1,0;b0,0;w0;").does("light(1, 1)", "keepIt(1, 1)", "catchIt(0)").tells("when(1)", 0);
    }

    private static void sixtyIsTheLastNight() {
        told("l1,0;b59,0;w0;").tells("when(0)", 59);
        told("l1,0;b60,0;w0;").tells("when(0)", 60);
        told("l1,0;b61,0;w0;").tells("when(0)", NONE).does("nights(1)").tells("when(0)", 60);
    }

    private static void neverIsNone() {
        Run x = told("l9,1;b9,0;w0;").tells("when(0)", 1).does("light(0, 1)").tells("when(0)", NONE);
        x.does("light(0, 0)", "keepIt(0, 1)").tells("when(0)", NONE);
        x.does("keepIt(0, 0)").tells("when(0)", 1).does("catchIt(0)").tells("when(0)", NONE);
        used().tells("when(0)", NONE).tells("when(1)", NONE).tells("when(2)", 2);
    }

    private static void booksAreThoseThereAre() {
        used().tells("when(-1)", BAD).tells("when(3)", BAD).tells("when(MOST)", BAD).tells("when(LEAST)", BAD);
        run().tells("when(0)", BAD);
        told("l1,0;b1,0;b1,0;b1,0;b1,0;b1,0;b7,0;s5;").tells("when(5)", 7).tells("when(6)", BAD);
    }
}
