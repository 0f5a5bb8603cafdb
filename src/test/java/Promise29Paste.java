/** Promise 29: paste. */
public final class Promise29Paste extends Promise {

    public static void main(String[] args) {
        tellsPastes();
        leastAndMost();
        byPagesOfAnotherOne();
        allThatFits();
        nightsAre1To12();
        booksAreThoseThereAre();
        rowsAre0To7();
        aMissingRowIsNull();
        placesAreOfTheRow();
        end();
    }

    private static Run reader() {
        return told("l3,0;b9,0;b0,0;b40,0;r1;");
    }

    private static void tellsPastes() {
        Run x = reader().tell(0, 9, 6);
        x.tells("paste(0, 0, 0, 1, 1)", 1008).tells("paste(0, 0, 0, 0, 1)", 15).tells("paste(0, 0, 0, 0, 2)", 0);
        x.does("set(0, 0, 7)").tells("paste(0, 0, 0, 0, 1)", 0);
        used().tells("paste(0, 0, 0, 0, 1)", 0);
    }

    private static void leastAndMost() {
        told("l3,0;b9,0;b0,0;b10,8;r1;").tell(0, 6).tells("paste(0, 0, 0, 0, 1)", 512);
        told("l3,0;b9,5;b0,0;b10,0;r1;").tell(0, 9).tells("paste(0, 0, 0, 0, 1)", 1);
        told("l3,0;b9,0;b0,0;b10,9;r1;").tell(0, 6).tells("paste(0, 0, 0, 0, 1)", 0);
    }

    private static void byPagesOfAnotherOne() {
        Run x = reader().tell(1, 9, 9).tell(2, 37);
        x.tells("paste(2, 0, 1, 0, 1)", 1023).tells("paste(0, 0, 1, 0, 2)", 15).tells("paste(0, 2, 2, 0, 1)", 15);
        x.tells("paste(2, 2, 2, 0, 1)", 1023).tells("paste(1, 0, 1, 0, 2)", 1023);
    }

    private static void allThatFits() {
        told("l1,0;b0,0;w0;").tell(0, 0, 0, 1).tells("paste(0, 0, 0, 0, 2)", 1023).tells("paste(0, 0, 0, 0, 3)", 0);
        Run x = told("l1,1;b5,3;r0;").does("keepIt(0, 1)").tell(0, 5, 5).tells("paste(0, 0, 0, 0, 2)", 1023);
        x.due("book(0, 1)", 3);
    }

    private static void nightsAre1To12() {
        Run x = told("l1,0;b99,0;w0;").tell(0, 98, 97, 96, 95, 94, 93, 92, 91, 90, 89, 88, 87, 86);
        x.tells("paste(0, 0, 0, 0, 1)", 1023).tells("paste(0, 0, 0, 0, 12)", 1023).tells("paste(0, 0, 0, 1, 12)", 0);
        x.tells("paste(0, 0, 0, 0, 13)", BAD).tells("paste(0, 0, 0, 0, 0)", BAD);
        x.does("set(0, 11, 88)").tells("paste(0, 0, 0, 0, 12)", 0).tells("paste(0, 0, 0, 0, 11)", 1023);
        used().tells("paste(0, 0, 0, 0, -1)", BAD).tells("paste(0, 0, 2, 0, 13)", BAD);
        used().tells("paste(0, 0, 0, 0, MOST)", BAD).tells("paste(0, 0, 0, 0, LEAST)", BAD)
                .tells("paste(0, 0, 7, 0, 0)", BAD);
    }

    private static void booksAreThoseThereAre() {
        used().tells("paste(-1, 0, 0, 0, 1)", BAD).tells("paste(3, 0, 0, 0, 1)", BAD);
        used().tells("paste(0, -1, 0, 0, 1)", BAD).tells("paste(0, 3, 0, 0, 1)", BAD)
                .tells("paste(3, 3, 0, 0, 1)", BAD);
        used().tells("paste(MOST, 0, 0, 0, 1)", BAD).tells("paste(0, LEAST, 0, 0, 1)", BAD);
        run().does("row(0, 0, 1)").tells("paste(0, 0, 0, 0, 1)", BAD);
    }

    private static void rowsAre0To7() {
        used().tells("paste(0, 0, -1, 0, 1)", BAD).tells("paste(0, 0, 8, 0, 1)", BAD);
        used().tells("paste(0, 0, MOST, 0, 1)", BAD).tells("paste(0, 0, LEAST, 0, 1)", BAD);
        reader().tell(7, 6).tells("paste(0, 0, 7, 0, 1)", 1008);
    }

    private static void aMissingRowIsNull() {
        used().tells("paste(0, 0, 3, 0, 1)", NULL).tells("paste(0, 0, 7, -1, 12)", NULL);
    }

    private static void placesAreOfTheRow() {
        used().tells("paste(0, 0, 0, -1, 1)", PLACE).tells("paste(0, 0, 0, 3, 1)", PLACE);
        used().tells("paste(0, 0, 0, 0, 4)", PLACE).tells("paste(0, 0, 0, 2, 2)", PLACE);
        used().tells("paste(0, 0, 2, 29, 12)", PLACE).tells("paste(0, 0, 2, 28, 12)", 0)
                .tells("paste(0, 0, 0, 2, 1)", 0);
        used().tells("paste(0, 0, 2, MOST, 12)", PLACE).tells("paste(0, 0, 2, LEAST, 12)", PLACE);
        used().does("row(3, 2, 0)").tells("paste(0, 0, 3, 0, 1)", PLACE);
    }
}
