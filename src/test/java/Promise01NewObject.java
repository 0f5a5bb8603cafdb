/** Promise 1: a new object has no library; all else is as the terms say that it is at first. */
public final class Promise01NewObject extends Promise {

    public static void main(String[] args) {
        constantsAreAsTold();
        hasNoLibrary();
        hasNoBooks();
        hasNoFish();
        allRowsAreMissing();
        theTapeIsEmpty();
        hasNoActAndNoImage();
        nothingWasAskedOrFound();
        isApartFromAnother();
        answersFor512Calls();
        end();
    }

    private static void constantsAreAsTold() {
        Due.due("NONE", FishReaders.NONE, -1000000);
        Due.due("BAD", FishReaders.BAD, -1000001);
        Due.due("STATE", FishReaders.STATE, -1000002);
        Due.due("FULL", FishReaders.FULL, -1000003);
    }

    private static void hasNoLibrary() {
        Run x = run();
        for (int what = 0; what < 6; what++) {
            x.tells("stand(" + what + ")", STATE);
        }
        for (int what = 1; what < 6; what++) {
            x.tells("count(" + what + ")", 0);
        }
        x.tells("nights(1)", STATE).tells("first(0)", STATE).tells("first(1)", STATE).tells("order(0, 1, -1)", STATE);
        x.tells("drawn(0, 1, 0)", STATE).tells("image(0)", STATE).tells("image(1)", STATE);
    }

    private static void hasNoBooks() {
        Run x = run().does("row(0, 0, 1)");
        x.tells("book(0, 0)", BAD).tells("light(0, 1)", BAD).tells("keepIt(0, 1)", BAD).tells("change(0, 1)", BAD);
        x.tells("ahead(0, 0, 0)", BAD).tells("when(0)", BAD).tells("lamp(0, 1, 0)", BAD).tells("caught(0, 1, 0)", BAD);
        x.tells("paste(0, 0, 0, 0, 1)", BAD).tells("hungers(0, 0, 0, 1)", BAD).tells("dark(0, 0, 0, 0)", BAD);
    }

    private static void hasNoFish() {
        Run x = run().does("row(0, 0, 1)");
        x.tells("fish(0, 0)", BAD).tells("move(0, 0)", BAD).tells("catchIt(0)", BAD).tells("later(0, 0, 0)", BAD);
        x.tells("hole(0, 0)", BAD).tells("grams(0, 0)", BAD).tells("who(0, 0, 0, 0, 0, 1)", BAD);
        x.tells("kind(0)", BAD).tells("as(0, 0)", BAD).tells("ask(0, 0)", BAD);
    }

    private static void allRowsAreMissing() {
        Run x = run().tells("count(0)", 0);
        for (int row = 0; row < 8; row++) {
            x.tells("drop(" + row + ")", NULL).tells("set(" + row + ", 0, 0)", NULL);
        }
    }

    private static void theTapeIsEmpty() {
        run().tells("count(7)", 0).due("feed(108)", 1);
        run().due("library()", -1000100).due("fault()", 1);
    }

    private static void hasNoActAndNoImage() {
        run().tells("count(6)", 0).tells("undo()", STATE).tells("restore(0)", STATE).tells("restore(1)", STATE);
    }

    private static void nothingWasAskedOrFound() {
        run().tells("trace(0)", NONE).tells("fault()", 0).tells("status()", 0);
    }

    private static void isApartFromAnother() {
        used();
        hasNoLibrary();
        allRowsAreMissing();
        theTapeIsEmpty();
        hasNoActAndNoImage();
        nothingWasAskedOrFound();
    }

    private static void answersFor512Calls() {
        Run x = told("l1,1;b9,0;w0;");
        for (int k = 14; k < 512; k += 2) {
            x.due("light(0, 1)", 1).due("light(0, 0)", 0);
        }
    }
}
