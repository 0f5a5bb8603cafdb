/** Promise 10: nights, with what section 2 of the terms says of a night but where a fish goes. */
public final class Promise10Nights extends Promise {

    public static void main(String[] args) {
        takes1To24();
        otherNumbersAreBad();
        noLibraryIsStateAheadOfBad();
        nightsEndAt999();
        fullIsBehindBad();
        tellsPagesOfAllBooks();
        eachNightIsAnAct();
        itEatsAsManyPagesAsHunger();
        itEatsAllThereAreIfFewer();
        whatItEatsIsItsDust();
        itEatsWhereItIsThen();
        litOnesAreNotEaten();
        keptOnesAreNotEaten();
        fishByFish();
        aCaughtOneDoesNotGo();
        itIsDampOnNightsThatLeave3();
        nineIsTheMostPaste();
        keptOnesAreNotDamp();
        itIsDampWhenAllDid();
        end();
    }

    private static void takes1To24() {
        for (int n : new int[] {1, 2, 23, 24}) {
            told("l1,0;b99,0;w0;").due("nights(" + n + ")", 99 - n).due("count(3)", n).due("count(6)", n);
        }
    }

    private static void otherNumbersAreBad() {
        used().tells("nights(0)", BAD).tells("nights(25)", BAD).tells("nights(-1)", BAD);
        used().tells("nights(MOST)", BAD).tells("nights(LEAST)", BAD);
    }

    private static void noLibraryIsStateAheadOfBad() {
        run().tells("nights(1)", STATE).tells("nights(24)", STATE).tells("nights(0)", STATE).tells("nights(25)", STATE);
        run().feed("l0").does("library()").tells("nights(-1)", STATE);
    }

    /** Behind 984 nights, without an act. */
    private static Run late() {
        Run x = told("l1,0;b9,0;w0;");
        for (int k = 0; k < 41; k++) {
            x.does("nights(24)");
        }
        return x.does("image(0)", "restore(0)").due("count(3)", 984);
    }

    private static void nightsEndAt999() {
        late().tells("nights(16)", FULL).tells("nights(24)", FULL).due("nights(15)", 0).due("count(3)", 999);
        late().does("nights(15)").tells("nights(1)", FULL).tells("nights(24)", FULL).due("undo()", 14)
                .due("nights(1)", 0);
        late().does("nights(14)").due("count(3)", 998).tells("nights(2)", FULL).due("nights(1)", 0)
                .due("count(3)", 999);
        Run x = told("l1,0;b9,0;w0;").does("nights(15)");
        for (int k = 0; k < 41; k++) {
            x.due("nights(24)", 0);
        }
        x.due("count(3)", 999).due("nights(1)", FULL).due("count(6)", 24);
        x.told("l1,0;b9,0;w0;").due("nights(1)", 8);
    }

    private static void fullIsBehindBad() {
        late().does("nights(15)").tells("nights(0)", BAD).tells("nights(25)", BAD);
    }

    private static void tellsPagesOfAllBooks() {
        told("l4,2;b30,5;b60,1;w0;w1;").due("nights(1)", 82).due("nights(2)", 66).due("nights(24)", 0);
        told("l1,0;b99,0;b99,0;b99,0;b99,0;b99,0;b99,0;w0;").due("nights(1)", 593);
        told("l1,0;b0,0;w0;").due("nights(1)", 0);
    }

    private static void eachNightIsAnAct() {
        told("l1,0;b9,0;w0;").due("nights(3)", 6).due("undo()", 2).due("count(3)", 2).due("stand(3)", 7);
    }

    private static void itEatsAsManyPagesAsHunger() {
        for (int hunger = 1; hunger <= 9; hunger++) {
            told("l" + hunger + ",0;b99,0;w0;").due("nights(1)", 99 - hunger).due("fish(0, 1)", hunger);
        }
    }

    private static void itEatsAllThereAreIfFewer() {
        told("l5,0;b6,0;w0;").due("nights(1)", 1).due("nights(1)", 0).due("fish(0, 1)", 6);
        told("l5,0;b5,0;w0;").due("nights(1)", 0).due("fish(0, 1)", 5).due("nights(1)", 0).due("fish(0, 1)", 5);
        told("l5,0;b4,0;w0;").due("nights(1)", 0).due("fish(0, 1)", 4);
        told("l5,0;b0,0;w0;").due("nights(1)", 0).due("fish(0, 1)", 0);
    }

    private static void whatItEatsIsItsDust() {
        Run x = told("l9,0;b99,0;b99,0;b99,0;b99,0;b99,0;b99,0;w0;");
        x.due("nights(24)", 378).due("fish(0, 1)", 216).due("nights(24)", 162).due("fish(0, 1)", 432);
        x.due("nights(18)", 0).due("fish(0, 1)", 594).due("nights(24)", 0).due("fish(0, 1)", 594);
    }

    private static void itEatsWhereItIsThen() {
        Run x = told("l2,0;b9,0;b9,0;w0;").due("nights(1)", 16).due("book(0, 0)", 9).due("book(1, 0)", 7);
        x.due("change(0, 1)", 1).due("nights(1)", 14).due("book(0, 0)", 9).due("book(1, 0)", 5).due("fish(0, 0)", 0);
    }

    private static void litOnesAreNotEaten() {
        Run x = told("l2,1;b9,0;w0;").does("light(0, 1)").due("nights(2)", 9).due("fish(0, 1)", 0);
        x.does("light(0, 0)").due("nights(1)", 7).due("fish(0, 1)", 2);
    }

    private static void keptOnesAreNotEaten() {
        Run x = told("l2,1;b9,0;w0;").does("keepIt(0, 1)").due("nights(2)", 9).due("fish(0, 1)", 0);
        x.does("light(0, 1)", "keepIt(0, 0)").due("nights(1)", 9).does("keepIt(0, 1)", "light(0, 0)")
                .due("nights(1)", 9);
        x.does("keepIt(0, 0)").due("nights(1)", 7);
    }

    private static void fishByFish() {
        told("l5,0;b7,0;w0;w0;w0;").due("nights(1)", 0).due("fish(0, 1)", 5).due("fish(1, 1)", 2).due("fish(2, 1)", 0);
        Run x = told("l3,0;b10,7;b20,6;r1;r1;").tells("fish(0, 2)", 1).tells("fish(1, 2)", 1).due("nights(1)", 24);
        x.due("fish(0, 0)", 1).due("fish(1, 0)", 0).due("book(0, 0)", 7).due("book(1, 0)", 17);
        x = told("l1,0;b1,0;b5,0;w1;s0;").due("nights(1)", 4).due("fish(0, 1)", 1).due("fish(1, 0)", 1);
        x.due("fish(1, 1)", 1);
    }

    private static void aCaughtOneDoesNotGo() {
        Run x = told("l2,0;b9,0;b9,0;w0;w1;").does("catchIt(0)").due("nights(1)", 16).due("fish(1, 0)", 0);
        x.due("fish(0, 1)", 0).due("fish(1, 1)", 2).does("undo()", "undo()").due("fish(0, 0)", 0);
    }

    private static void itIsDampOnNightsThatLeave3() {
        Run x = told("l1,0;b0,0;b9,3;w0;");
        for (int night = 0; night < 13; night++) {
            x.due("book(0, 1)", night / 4).due("book(1, 1)", 3 + night / 4).does("nights(1)");
        }
    }

    private static void nineIsTheMostPaste() {
        Run x = told("l1,0;b0,8;b0,9;b0,7;w0;").does("nights(4)");
        x.due("book(0, 1)", 9).due("book(1, 1)", 9).due("book(2, 1)", 8).does("nights(4)");
        x.due("book(0, 1)", 9).due("book(1, 1)", 9).due("book(2, 1)", 9).does("nights(24)", "nights(24)");
        x.due("book(0, 1)", 9).due("book(1, 1)", 9).due("book(2, 1)", 9);
        told("l1,0;b0,0;w0;").does("nights(24)", "nights(11)").due("book(0, 1)", 8).does("nights(1)")
                .due("book(0, 1)", 9);
    }

    private static void keptOnesAreNotDamp() {
        Run x = told("l1,1;b0,2;b0,2;b0,2;w0;").does("keepIt(0, 1)", "light(1, 1)", "nights(4)");
        x.due("book(0, 1)", 2).due("book(1, 1)", 3).due("book(2, 1)", 3).does("keepIt(0, 0)", "nights(3)");
        x.due("book(0, 1)", 2).does("nights(1)").due("book(0, 1)", 3);
        told("l1,1;b0,2;w0;").does("light(0, 1)", "keepIt(0, 1)", "nights(4)").due("book(0, 1)", 2);
        for (int kept = 0; kept < 6; kept++) {
            x = told("l1,0;b0,2;b0,2;b0,2;b0,2;b0,2;b0,2;w0;").does("keepIt(" + kept + ", 1)", "nights(4)");
            for (int b = 0; b < 6; b++) {
                x.due("book(" + b + ", 1)", b == kept ? 2 : 3);
            }
        }
    }

    private static void itIsDampWhenAllDid() {
        // were it damp ahead of them, both would have PASTE 9, and it would go down
        Run x = told("l1,2;b50,8;b0,0;b50,9;r1;").does("light(0, 1)", "light(2, 1)", "nights(3)");
        x.does("light(0, 0)", "light(2, 0)").due("fish(0, 0)", 1).due("nights(1)", 99).due("fish(0, 0)", 2);
        x.due("book(0, 1)", 9).due("book(2, 1)", 9);
    }
}
