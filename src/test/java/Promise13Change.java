/** Promise 13: change. */
public final class Promise13Change extends Promise {

    public static void main(String[] args) {
        tellsThePlaceOfTheFirstOne();
        threeChangeInTurn();
        firstAndLastChange();
        booksAreThoseThereAre();
        alikeIsBad();
        allElseOfABookGoesWithIt();
        fishStayInTheirPlaces();
        isAnAct();
        end();
    }

    private static void tellsThePlaceOfTheFirstOne() {
        Run x = told("l1,0;b1,0;b2,0;b3,0;w0;").due("change(0, 2)", 2).due("change(0, 1)", 1).due("change(2, 1)", 2);
        x.due("book(0, 2)", 1).due("book(1, 2)", 0).due("book(2, 2)", 2);
    }

    private static void threeChangeInTurn() {
        Run x = told("l1,0;b1,0;b2,0;b3,0;r0;w1;s2;").due("change(0, 2)", 2).due("change(0, 1)", 1).does("image(0)");
        for (int k = 0; k < 3; k++) {
            x.due("book(0, 2)", 1).due("book(1, 2)", 2).due("book(2, 2)", 0);
            x.due("fish(0, 3)", 2).due("fish(1, 3)", 0).due("fish(2, 3)", 1);
            x.due("book(0, 5)", 2).due("book(1, 5)", 4).due("book(2, 5)", 1);
            x.due("hole(2, 1)", 2).does(k == 0 ? "light(0, 1)" : "undo()", "restore(0)");
        }
    }

    private static void firstAndLastChange() {
        Run x = told("l1,0;b1,0;b2,0;b3,0;b4,0;b5,0;b6,0;w0;").due("change(5, 0)", 0);
        int[] places = {5, 1, 2, 3, 4, 0};
        for (int b = 0; b < 6; b++) {
            x.due("book(" + b + ", 2)", places[b]).due("book(" + b + ", 0)", b + 1);
        }
        x.due("change(5, 0)", 5).due("change(0, 5)", 5).due("change(0, 5)", 0);
        for (int b = 0; b < 6; b++) {
            x.due("book(" + b + ", 2)", b);
        }
        told("l1,0;b1,0;b2,0;w0;").due("change(0, 1)", 1).due("fish(0, 3)", 1);
    }

    private static void booksAreThoseThereAre() {
        used().tells("change(-1, 0)", BAD).tells("change(0, -1)", BAD).tells("change(3, 0)", BAD);
        used().tells("change(0, 3)", BAD).tells("change(MOST, 0)", BAD).tells("change(0, LEAST)", BAD);
        run().tells("change(0, 1)", BAD);
        told("l1,0;b1,0;w0;").tells("change(0, 1)", BAD).tells("change(1, 0)", BAD);
        told("l1,0;b1,0;b1,0;b1,0;b1,0;b1,0;b1,0;w0;").tells("change(0, 6)", BAD).tells("change(6, 5)", BAD);
    }

    private static void alikeIsBad() {
        used().tells("change(0, 0)", BAD).tells("change(2, 2)", BAD).tells("change(3, 3)", BAD)
                .tells("change(-1, -1)", BAD);
    }

    private static void allElseOfABookGoesWithIt() {
        Run x = told("l1,1;b11,1;b22,2;b33,3;w0;").does("light(0, 1)", "keepIt(2, 1)").due("change(0, 1)", 1);
        x.due("book(0, 0)", 11).due("book(0, 1)", 1).due("book(0, 3)", 1).due("book(1, 3)", 0).due("stand(0)", 1);
        x.due("book(1, 0)", 22).due("book(1, 1)", 2).due("change(2, 1)", 0).due("book(2, 4)", 1).due("stand(1)", 4);
        x.due("nights(1)", 66).due("fish(0, 3)", 0).due("nights(1)", 65).due("fish(0, 3)", 1);
    }

    private static void fishStayInTheirPlaces() {
        Run x = told("l1,0;b1,0;b2,0;b3,0;w0;s2;").due("change(0, 2)", 2);
        x.due("fish(0, 0)", 0).due("fish(1, 0)", 2).due("fish(0, 3)", 2).due("fish(1, 3)", 0);
        x.due("book(0, 5)", 2).due("book(2, 5)", 1);
    }

    private static void isAnAct() {
        Run x = told("l1,0;b1,0;b2,0;w0;").does("change(0, 1)", "change(0, 1)").due("count(6)", 2).due("undo()", 1);
        x.due("book(0, 2)", 1).due("fish(0, 3)", 1).due("undo()", 0).due("book(0, 2)", 0).due("fish(0, 3)", 0);
    }
}
