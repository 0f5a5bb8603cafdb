/** Promise 9: undo, with what section 2 of the terms says of acts. */
public final class Promise09Undo extends Promise {

    public static void main(String[] args) {
        eachActIsUndone();
        aNightIsUndoneWhole();
        theLatestComesFirst();
        twentyFourAreKept();
        ofMoreTheOldestIsForgotten();
        theRingWrapsAround();
        noneIsState();
        alsoActsByWhichNothingBecomesAnother();
        whatIsRefusedIsNoAct();
        noneBehindALibraryOrAnImage();
        leavesAllThatIsNoLibrary();
        anActBehindAnUndoneOneComesInItsPlace();
        end();
    }

    private static Run three() {
        return told("l3,2;b30,5;b60,1;b9,9;r0;w1;s2;");
    }

    private static void eachActIsUndone() {
        for (String act : new String[] {"nights(1)", "light(1, 1)", "keepIt(0, 1)", "change(0, 2)", "move(1, 0)",
            "catchIt(0)"}) {
            Run x = three().does(act).due("count(6)", 1).due("undo()", 0);
            x.due("stand(0)", 0).due("stand(1)", 0).due("stand(2)", 0).due("stand(3)", 99);
            x.due("count(3)", 0).due("count(5)", 0).due("fish(0, 0)", 0).due("fish(1, 0)", 1).due("fish(2, 0)", 2);
            x.due("book(0, 2)", 0).due("book(2, 2)", 2).tells("undo()", STATE);
        }
        Run x = three().does("light(1, 1)", "keepIt(0, 1)", "light(1, 0)", "keepIt(0, 0)").due("count(6)", 4);
        x.due("undo()", 3).due("stand(1)", 1).due("stand(0)", 0).due("undo()", 2).due("stand(0)", 2);
    }

    private static void aNightIsUndoneWhole() {
        Run x = three().due("nights(4)", 66).due("count(5)", 33).due("book(0, 1)", 6).due("undo()", 3);
        x.due("book(0, 1)", 5).due("book(2, 1)", 9).due("count(3)", 3).due("count(5)", 27).due("stand(3)", 72);
        x.due("undo()", 2).due("undo()", 1).due("undo()", 0).due("stand(3)", 99).due("count(5)", 0);
        x.due("nights(4)", 66).due("book(0, 1)", 6);
    }

    private static void theLatestComesFirst() {
        Run x = three().does("nights(1)", "light(1, 1)", "keepIt(0, 1)", "change(0, 2)", "move(1, 0)", "catchIt(0)");
        x.due("undo()", 5).due("stand(2)", 0).due("fish(1, 0)", 0);
        x.due("undo()", 4).due("fish(1, 0)", 2).due("book(0, 2)", 2);
        x.due("undo()", 3).due("book(0, 2)", 0).due("book(2, 2)", 2).due("stand(1)", 1);
        x.due("undo()", 2).due("stand(1)", 0).due("stand(0)", 2);
        x.due("undo()", 1).due("stand(0)", 0).due("count(3)", 1);
        x.due("undo()", 0).due("count(3)", 0).due("fish(1, 0)", 1).tells("undo()", STATE);
    }

    private static Run acts(int n) {
        Run x = told("l1,1;b99,0;w0;");
        for (int k = 0; k < n; k++) {
            x.due("nights(1)", 98 - k).due("count(6)", Math.min(k + 1, 24));
        }
        return x;
    }

    private static void twentyFourAreKept() {
        Run x = acts(24);
        for (int k = 23; k >= 0; k--) {
            x.due("undo()", k).due("count(3)", k).due("stand(3)", 99 - k);
        }
        x.tells("undo()", STATE);
    }

    private static void ofMoreTheOldestIsForgotten() {
        Run x = acts(25);
        for (int k = 23; k >= 0; k--) {
            x.due("undo()", k).due("count(3)", k + 1);
        }
        x.tells("undo()", STATE);
        x = told("l1,1;b99,0;w0;").does("light(0, 1)").due("nights(24)", 99).due("count(6)", 24);
        for (int k = 23; k >= 0; k--) {
            x.due("undo()", k).due("stand(0)", 1);
        }
        x.tells("undo()", STATE).due("stand(0)", 1);
    }

    private static void theRingWrapsAround() {
        Run x = told("l1,1;b99,0;w0;").due("nights(24)", 75).due("nights(20)", 55);
        x.due("undo()", 23).due("undo()", 22).due("undo()", 21).due("count(3)", 41);
        x.due("nights(2)", 56).due("count(6)", 23).due("nights(1)", 55).due("nights(1)", 54).due("count(6)", 24);
        for (int k = 23; k >= 0; k--) {
            x.due("undo()", k).due("count(3)", 21 + k);
        }
        x.tells("undo()", STATE);
    }

    private static void noneIsState() {
        run().tells("undo()", STATE);
        three().tells("undo()", STATE);
        three().does("light(0, 1)").due("undo()", 0).tells("undo()", STATE);
    }

    private static void alsoActsByWhichNothingBecomesAnother() {
        // but NIGHT, which is 1 more
        Run x = told("l1,1;b0,9;r0;").due("nights(1)", 0).due("nights(1)", 0).due("count(6)", 2).due("undo()", 1);
        x.due("count(3)", 1).due("undo()", 0).due("count(3)", 0).tells("undo()", STATE);
        x = told("l1,1;b9,9;r0;").does("catchIt(0)", "light(0, 1)", "keepIt(0, 1)", "nights(2)").due("count(6)", 5);
        x.due("undo()", 4).due("undo()", 3).due("count(3)", 0).due("undo()", 2).due("stand(1)", 0);
    }

    private static void whatIsRefusedIsNoAct() {
        Run x = three().does("nights(0)", "nights(25)", "light(0, 0)", "light(3, 1)", "keepIt(0, 0)", "keepIt(0, 2)");
        x.does("change(0, 0)", "change(0, 3)", "move(0, 0)", "move(0, 3)", "catchIt(3)", "catchIt(-1)");
        x.tells("undo()", STATE).does("catchIt(0)", "catchIt(0)", "move(0, 1)").due("count(6)", 1);
    }

    private static void noneBehindALibraryOrAnImage() {
        three().does("nights(2)").told("l1,0;b1,0;r0;").due("count(6)", 0).tells("undo()", STATE);
        three().does("nights(2)", "image(0)", "restore(0)").due("count(6)", 0).tells("undo()", STATE);
        three().does("nights(2)").feed("l0").does("library()").due("count(6)", 2).due("undo()", 1);
        three().does("nights(2)", "image(0)").due("count(6)", 2).due("undo()", 1);
    }

    private static void leavesAllThatIsNoLibrary() {
        Run x = used().due("undo()", 5).due("count(0)", 3).itemsAre(0, 9, 0, 9).due("count(7)", 6).due("trace(0)", 11);
        x.due("status()", 3).due("fault()", 2).due("restore(0)", 1).due("stand(3)", 76);
    }

    private static void anActBehindAnUndoneOneComesInItsPlace() {
        Run x = three().does("light(0, 1)", "light(1, 1)").due("undo()", 1).due("keepIt(2, 1)", 4).due("count(6)", 2);
        x.due("undo()", 1).due("stand(1)", 0).due("stand(0)", 1).due("undo()", 0).due("stand(0)", 0);
    }
}
