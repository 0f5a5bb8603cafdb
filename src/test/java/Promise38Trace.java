/** Promise 38: trace. */
public final class Promise38Trace extends Promise {

    public static void main(String[] args) {
        tellsEachNumber();
        behindTheLastIsNone();
        below0IsNone();
        beforeAnAskIsNone();
        staysBehindAllElse();
        end();
    }

    private static Run asked() {
        return told("l1,0;b1,0;p0;").due("ask(0, 0)", 0);
    }

    private static void tellsEachNumber() {
        asked().tells("trace(0)", 12).tells("trace(1)", 11).tells("trace(2)", 10).tells("trace(3)", 24);
        asked().tells("trace(4)", 21).tells("trace(5)", 20);
    }

    private static void behindTheLastIsNone() {
        asked().tells("trace(6)", NONE).tells("trace(15)", NONE).tells("trace(16)", NONE).tells("trace(17)", NONE);
        asked().tells("trace(MOST)", NONE);
    }

    private static void below0IsNone() {
        asked().tells("trace(-1)", NONE).tells("trace(LEAST)", NONE);
    }

    private static void beforeAnAskIsNone() {
        run().tells("trace(0)", NONE).tells("trace(15)", NONE);
        told("l1,0;b1,0;p0;").tells("trace(0)", NONE);
    }

    private static void staysBehindAllElse() {
        Run x = asked().does("nights(1)", "undo()", "image(0)", "restore(0)", "row(0, 0, 1)", "as(0, 0)", "catchIt(0)");
        x.told("l1,0;b1,0;s0;").due("trace(0)", 12).due("trace(5)", 20).due("trace(6)", NONE);
    }
}
