/** Promise 34: restore. */
public final class Promise34Restore extends Promise {

    public static void main(String[] args) {
        imagesAre0And1();
        noneWasKept();
        badIsAheadOfState();
        theLibraryIsAsItWasKept();
        allCallsAreOfThatLibrary();
        theImageStays();
        noActCanBeUndoneThen();
        allElseStays();
        end();
    }

    private static void imagesAre0And1() {
        used().tells("restore(-1)", BAD).tells("restore(2)", BAD).tells("restore(MOST)", BAD)
                .tells("restore(LEAST)", BAD);
        used().due("restore(0)", 1);
        told("l1,0;b1,0;r0;").does("image(1)").due("restore(1)", 1);
    }

    private static void noneWasKept() {
        run().tells("restore(0)", STATE).tells("restore(1)", STATE);
        used().tells("restore(1)", STATE);
        told("l1,0;b1,0;r0;").does("image(1)").tells("restore(0)", STATE);
        told("l1,0;b1,0;r0;").tells("restore(0)", STATE).tells("restore(1)", STATE);
    }

    private static void badIsAheadOfState() {
        run().tells("restore(-1)", BAD).tells("restore(2)", BAD);
    }

    private static void theLibraryIsAsItWasKept() {
        Run x = used().due("restore(0)", 1).due("stand(0)", 0).due("stand(1)", 0).due("stand(2)", 0)
                .due("stand(3)", 76);
        x.due("count(3)", 1).due("count(5)", 6).due("book(0, 2)", 0).due("book(2, 2)", 2).due("fish(0, 0)", 0);
        x.due("fish(1, 0)", 2).due("fish(2, 0)", 2).due("fish(0, 1)", 2);
        x.due("nights(3)", 61).due("book(0, 1)", 6).due("restore(0)", 1).due("book(0, 1)", 5).due("stand(3)", 76);
        x = told("l1,0;b9,0;w0;").does("image(0)").told("l2,2;b1,0;b2,0;b3,0;s0;p1;").due("restore(0)", 1);
        x.due("count(1)", 1).due("count(2)", 1).due("stand(4)", 1).due("stand(5)", 0).due("kind(0)", 4)
                .due("nights(1)", 8);
        x.tells("order(3, 1, -1)", BAD).tells("move(0, 1)", BAD);
    }

    private static void allCallsAreOfThatLibrary() {
        Run x = told("l3,2;b30,5;b25,8;b41,2;r0;p1;c2;w1;").tell(0, 24, 21).does("nights(2)", "image(0)");
        for (String text : new String[] {"l1,0;b1,1;r0;", "l9,8;b9,9;b9,9;b9,9;b9,9;b9,9;b9,9;s5;s5;s5;s5;s5;"}) {
            for (String call : EachCall.ON_THREE_BOOKS) {
                long due = x.twin().does("image(1)", "restore(0)").answers(call);
                x.twin().does("image(1)").told(text).does("restore(0)").due(call, due);
            }
        }
    }

    private static void theImageStays() {
        Run x = told("l1,1;b9,0;w0;").does("nights(1)", "image(0)");
        for (int k = 0; k < 3; k++) {
            x.due("nights(1)", 7).does("light(0, 1)", "catchIt(0)").due("restore(0)", 1).due("stand(3)", 8);
            x.due("stand(0)", 0).due("stand(2)", 0).due("count(3)", 1);
        }
    }

    private static void noActCanBeUndoneThen() {
        used().due("restore(0)", 1).due("count(6)", 0).tells("undo()", STATE);
        Run x = told("l1,0;b99,0;w0;").does("image(0)", "nights(24)").due("count(6)", 24).due("restore(0)", 1);
        x.tells("undo()", STATE).due("nights(2)", 97).due("count(6)", 2).due("undo()", 1).due("undo()", 0);
        x.tells("undo()", STATE).due("stand(3)", 99);
        used().due("restore(1)", STATE).due("count(6)", 6).due("restore(2)", BAD).due("undo()", 5);
    }

    private static void allElseStays() {
        Run x = used().due("restore(0)", 1).due("status()", 3).due("fault()", 2).due("count(7)", 6).due("count(0)", 3);
        x.due("trace(0)", 11).due("trace(3)", 20).itemsAre(0, 9, 0, 9).itemsAre(1, 0, 0);
        x.feed("9,9;w0;").due("library()", 1).due("stand(4)", 5);
    }
}
