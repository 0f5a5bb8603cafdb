/** Promise 37: ask, with what section 4 of the terms says. */
public final class Promise37Ask extends Promise {

    public static void main(String[] args) {
        sizesAreAsked();
        marksAreAsked();
        dustIsAsked();
        placeIsAsked();
        thatWhereItWasCaught();
        asksAre0And1();
        fishAreThoseThereAre();
        theTraceIsEmptyAheadOfIt();
        whereThatIsRefusedItStays();
        nothingElseBecomesAnother();
        end();
    }

    private static Run each() {
        return told("l4,2;b30,5;b60,1;b0,9;b25,7;b90,0;r0;p4;c2;w1;s3;");
    }

    private static void asked(Run x, int one, int what, int due, int... trace) {
        x.due("ask(" + one + ", " + what + ")", due);
        for (int i = 0; i < trace.length; i++) {
            x.due("trace(" + i + ")", trace[i]);
        }
        x.due("trace(" + trace.length + ")", NONE);
    }

    private static void sizesAreAsked() {
        asked(each(), 0, 0, 0, 11, 10, 21, 20);
        asked(each(), 1, 0, -10, 12, 11, 10, 24, 21, 20);
        asked(each(), 2, 0, -996, 11, 10, 22, 21, 20);
        asked(each(), 3, 0, -100, 13, 10);
        asked(each(), 4, 0, -200, 14, 13, 10);
    }

    private static void marksAreAsked() {
        asked(each(), 0, 1, 0, 21, 20);
        asked(each(), 1, 1, 10, 24, 21, 20);
        asked(each(), 2, 1, -996, 22, 21, 20);
        asked(each(), 3, 1, 103, 23, 20, 13, 10);
        asked(each(), 4, 1, 204, 23, 20, 14, 13, 10);
    }

    private static void dustIsAsked() {
        // each eats 4: the reader at 0, the poet and the critic at 3, the wanderer none at 2, the scholar at 3
        Run x = each().due("nights(1)", 189).due("fish(0, 1)", 4).due("fish(1, 1)", 4).due("fish(2, 1)", 4);
        x.due("fish(3, 1)", 0).due("fish(4, 1)", 4).due("fish(1, 0)", 3).due("fish(2, 0)", 3).due("fish(3, 0)", 2);
        asked(x, 0, 0, 4, 11, 10, 21, 20);
        asked(x, 1, 0, -12, 12, 11, 10, 24, 21, 20);
        asked(x, 2, 0, -991, 11, 10, 22, 21, 20);
        asked(x, 3, 0, -100, 13, 10);
        asked(x, 4, 0, -192, 14, 13, 10);
        asked(x, 3, 1, 103, 23, 20, 13, 10);
        asked(x, 4, 1, 196, 23, 20, 14, 13, 10);
    }

    private static void placeIsAsked() {
        Run x = told("l1,0;b1,0;b1,0;b1,0;b1,0;b1,0;b1,0;r0;p0;c0;r0;r0;")
                .does("move(0, 5)", "move(1, 5)", "move(2, 5)");
        asked(x, 0, 1, 5, 21, 20);
        asked(x, 1, 1, 12, 24, 21, 20);
        asked(x, 2, 1, -993, 22, 21, 20);
        asked(x, 4, 1, 4, 21, 20);
        asked(x.does("change(0, 5)"), 0, 1, 5, 21, 20);
    }

    private static void thatWhereItWasCaught() {
        Run x = told("l4,0;b30,0;b60,0;w1;s1;r0;p1;").due("nights(1)", 74)
                .does("catchIt(2)", "catchIt(3)", "nights(3)");
        x.due("fish(2, 0)", NONE).due("fish(2, 1)", 4).due("fish(3, 1)", 4);
        asked(x, 2, 1, 3, 21, 20);
        asked(x, 2, 0, 7, 11, 10, 21, 20);
        asked(x, 3, 1, 8, 24, 21, 20);
        asked(x, 3, 0, -12, 12, 11, 10, 24, 21, 20);
        asked(x.does("catchIt(0)", "nights(1)"), 0, 0, -84, 13, 10);
        asked(used(), 2, 1, -996, 22, 21, 20);
    }

    private static void asksAre0And1() {
        used().tells("ask(0, -1)", BAD).tells("ask(0, 2)", BAD).tells("ask(0, MOST)", BAD).tells("ask(0, LEAST)", BAD);
    }

    private static void fishAreThoseThereAre() {
        used().tells("ask(-1, 0)", BAD).tells("ask(3, 0)", BAD).tells("ask(MOST, 1)", BAD).tells("ask(LEAST, 1)", BAD);
        each().tells("ask(5, 0)", BAD).due("ask(4, 0)", -200);
        run().tells("ask(0, 0)", BAD).tells("ask(0, 1)", BAD);
    }

    private static void theTraceIsEmptyAheadOfIt() {
        Run x = each();
        asked(x, 1, 0, -10, 12, 11, 10, 24, 21, 20);
        asked(x, 3, 0, -100, 13, 10);
        x.due("trace(2)", NONE).due("trace(3)", NONE).due("trace(5)", NONE);
        for (int k = 0; k < 20; k++) {
            x.due("ask(1, 0)", -10);
        }
        x.due("trace(0)", 12).due("trace(5)", 20).due("trace(6)", NONE).due("trace(15)", NONE);
    }

    private static void whereThatIsRefusedItStays() {
        Run x = each().does("ask(1, 0)", "ask(5, 0)", "ask(-1, 1)", "ask(0, 2)", "ask(0, -1)");
        x.due("trace(0)", 12).due("trace(5)", 20).due("trace(6)", NONE);
    }

    private static void nothingElseBecomesAnother() {
        Run x = used().does("ask(0, 0)").due("status()", 3).due("fault()", 2).due("count(6)", 6).due("count(7)", 6);
        x.due("count(5)", 6).due("stand(3)", 76).due("fish(0, 0)", 0);
    }
}
