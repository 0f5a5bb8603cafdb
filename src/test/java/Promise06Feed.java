/** Promise 6: feed. */
public final class Promise06Feed extends Promise {

    public static void main(String[] args) {
        bytesAre0To255();
        tellsHowManyTheTapeHas();
        takes120Bytes();
        theNextOneIsFull();
        badIsAheadOfFull();
        thereIsRoomBehindAReading();
        bytesAreReadInTheirOrder();
        end();
    }

    private static Run full() {
        return run().does("row(0, 0, 3)").feed("l".repeat(120));
    }

    private static void bytesAre0To255() {
        run().due("feed(0)", 1).due("feed(255)", 2).due("feed(128)", 3).due("feed(127)", 4);
        used().tells("feed(-1)", BAD).tells("feed(256)", BAD).tells("feed(LEAST)", BAD).tells("feed(MOST)", BAD);
        used().tells("feed(364)", BAD).tells("feed(-148)", BAD);
    }

    private static void tellsHowManyTheTapeHas() {
        run().due("feed(108)", 1).due("count(7)", 1).due("feed(108)", 2).due("count(7)", 2);
    }

    private static void takes120Bytes() {
        Run x = run();
        for (int k = 1; k <= 120; k++) {
            x.due("feed(" + k + ")", k);
        }
        x.tells("count(7)", 120);
    }

    private static void theNextOneIsFull() {
        full().tells("feed(108)", FULL).tells("feed(0)", FULL).tells("feed(255)", FULL);
        full().due("feed(108)", FULL).due("feed(108)", FULL).due("count(7)", 120).due("library()", -1000101);
    }

    private static void badIsAheadOfFull() {
        full().tells("feed(-1)", BAD).tells("feed(256)", BAD);
    }

    private static void thereIsRoomBehindAReading() {
        full().due("library()", -1000101).due("feed(108)", 1).feed("1,0;b0,0;r0;").due("library()", 1);
        run().told("l1,0;b0,0;r0;").due("feed(108)", 1);
    }

    private static void bytesAreReadInTheirOrder() {
        run().feed("l3,1;b42,7;b1,0;s1;").due("library()", 1).due("stand(4)", 3).due("stand(5)", 1);
        run().feed("l1,0;b0,0;r0;" + "l".repeat(107)).due("library()", -1000113).due("fault()", 1);
        run().feed("l1,0;b0,0;" + "r0;".repeat(5) + "x".repeat(95)).due("library()", -1000125);
    }
}
