/** Promises 35 to 38 with section 4 of the terms: kinds, what a fish is taken as, asks, the trace. */
public final class PromisesOfAsks {
    private static final String ONE_OF_EACH = "l4,2;b30,5;b60,1;b0,9;b25,7;b90,0;r0;p4;c2;w1;s3;";

    public static void main(String[] args) {
        kindsAreTold();
        fishAreTakenAs();
        sizesAreAsked();
        marksAreAsked();
        dustAndPlaceAreAsked();
        theTraceIsTold();
        Due.end();
    }

    private static void kindsAreTold() {
        FishReaders x = Due.told(ONE_OF_EACH);
        for (int f = 0; f < 5; f++) {
            Due.due("kind(" + f + ")", x.kind(f), f + 1);
        }
        Due.due("kind(5)", x.kind(5), Due.BAD);
        Due.due("kind(-1)", x.kind(-1), Due.BAD);
        x.catchIt(2);
        Due.due("CAUGHT", x.kind(2), 3);
    }

    private static void fishAreTakenAs() {
        FishReaders x = Due.told(ONE_OF_EACH);
        String[] areKinds = {"01", "012", "013", "04", "045"};
        for (int f = 0; f < 5; f++) {
            for (int kind = 0; kind < 6; kind++) {
                boolean isOne = areKinds[f].indexOf('0' + kind) >= 0;
                Due.due("as(" + f + ", " + kind + ")", x.as(f, kind), isOne ? f : Due.KIND);
                Due.due("status()", x.status(), isOne ? 0 : 3);
            }
        }
        Due.due("as(5, 0)", x.as(5, 0), Due.BAD);
        Due.due("as(-1, 0)", x.as(-1, 0), Due.BAD);
        Due.due("as(0, 6)", x.as(0, 6), Due.BAD);
        Due.due("as(0, -1)", x.as(0, -1), Due.BAD);
    }

    private static void asked(FishReaders x, int one, int what, int due, int... trace) {
        Due.due("ask(" + one + ", " + what + ")", x.ask(one, what), due);
        for (int i = 0; i < trace.length; i++) {
            Due.due("trace(" + i + ") of it", x.trace(i), trace[i]);
        }
        Due.due("no more of it", x.trace(trace.length), Due.NONE);
    }

    private static void sizesAreAsked() {
        FishReaders x = Due.told(ONE_OF_EACH);
        asked(x, 0, 0, 0, 11, 10, 21, 20);
        asked(x, 1, 0, -10, 12, 11, 10, 24, 21, 20);
        asked(x, 2, 0, -996, 11, 10, 22, 21, 20);
        asked(x, 3, 0, -100, 13, 10);
        asked(x, 4, 0, -200, 14, 13, 10);
    }

    private static void marksAreAsked() {
        FishReaders x = Due.told(ONE_OF_EACH);
        asked(x, 0, 1, 0, 21, 20);
        asked(x, 1, 1, 10, 24, 21, 20);
        asked(x, 2, 1, -996, 22, 21, 20);
        asked(x, 3, 1, 103, 23, 20, 13, 10);
        asked(x, 4, 1, 204, 23, 20, 14, 13, 10);
    }

    private static void dustAndPlaceAreAsked() {
        FishReaders x = Due.told("l4,2;b30,0;b60,0;w1;s1;r0;");
        x.nights(1);
        asked(x, 0, 0, -96, 13, 10);
        asked(x, 1, 0, -192, 14, 13, 10);
        asked(x, 1, 1, 193, 23, 20, 14, 13, 10);
        asked(x, 2, 0, 7, 11, 10, 21, 20);
        x.catchIt(2);
        x.nights(3);
        asked(x, 2, 1, 3, 21, 20);
        asked(x, 2, 0, 7, 11, 10, 21, 20);
    }

    private static void theTraceIsTold() {
        FishReaders x = Due.told(ONE_OF_EACH);
        x.ask(1, 0);
        Due.due("ask(5, 0)", x.ask(5, 0), Due.BAD);
        Due.due("ask(-1, 0)", x.ask(-1, 0), Due.BAD);
        Due.due("ask(0, 2)", x.ask(0, 2), Due.BAD);
        Due.due("ask(0, -1)", x.ask(0, -1), Due.BAD);
        Due.due("it stays where that is refused", x.trace(0), 12);
        Due.due("trace(5)", x.trace(5), 20);
        Due.due("trace(6)", x.trace(6), Due.NONE);
        Due.due("trace(16)", x.trace(16), Due.NONE);
        Due.due("trace(-1)", x.trace(-1), Due.NONE);
        x.nights(1);
        Due.feed(x, "l1,0;b0,0;r0;");
        x.library();
        Due.due("it stays with another LIBRARY", x.trace(0), 12);
        x.ask(0, 1);
        Due.due("it is empty ahead of an ask", x.trace(2), Due.NONE);
    }
}
