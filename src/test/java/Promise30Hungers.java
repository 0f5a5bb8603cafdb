/** Promise 30: hungers. */
public final class Promise30Hungers extends Promise {

    public static void main(String[] args) {
        tellsHungers();
        leastAndMost();
        allThatFits();
        nightsAre1To12();
        booksAreThoseThereAre();
        rowsAre0To7();
        aMissingRowIsNull();
        placesAreOfTheRow();
        end();
    }

    private static void tellsHungers() {
        Run x = told("l3,0;b9,0;w0;").tell(0, 4, 0);
        x.tells("hungers(0, 0, 0, 2)", 32).tells("hungers(0, 0, 0, 1)", 32).tells("hungers(0, 0, 1, 1)", 512);
        told("l3,0;b6,0;w0;").tell(0, 0, 0).tells("hungers(0, 0, 0, 2)", 64 + 128 + 256 + 512);
        told("l3,0;b6,0;w0;").tell(0, 3, 0).tells("hungers(0, 0, 0, 2)", 8);
    }

    private static void leastAndMost() {
        Run x = told("l3,0;b20,0;w0;").tell(0, 19, 11, 20, 10);
        x.tells("hungers(0, 0, 0, 1)", 2).tells("hungers(0, 0, 1, 1)", 512);
        x.tells("hungers(0, 0, 2, 1)", 0).tells("hungers(0, 0, 3, 1)", 0);
    }

    private static void allThatFits() {
        Run x = told("l1,1;b5,3;b0,0;r0;").does("keepIt(0, 1)").tell(0, 5, 5, 0, 0);
        x.tells("hungers(0, 0, 0, 2)", 1022).tells("hungers(1, 0, 2, 2)", 1022).tells("hungers(0, 0, 1, 2)", 0);
        x.due("stand(4)", 1);
    }

    private static void nightsAre1To12() {
        Run x = told("l7,0;b99,0;w0;").tell(0, 98, 97, 96, 95, 94, 93, 92, 91, 90, 89, 88, 87, 86);
        x.tells("hungers(0, 0, 0, 1)", 2).tells("hungers(0, 0, 0, 12)", 2).tells("hungers(0, 0, 1, 12)", 0);
        x.tells("hungers(0, 0, 0, 13)", BAD).tells("hungers(0, 0, 0, 0)", BAD);
        x.does("set(0, 11, 88)").tells("hungers(0, 0, 0, 12)", 0).tells("hungers(0, 0, 0, 11)", 2);
        used().tells("hungers(0, 0, 0, -1)", BAD).tells("hungers(0, 2, 0, 13)", BAD).tells("hungers(0, 7, 0, 0)", BAD);
        used().tells("hungers(0, 0, 0, MOST)", BAD).tells("hungers(0, 0, 0, LEAST)", BAD);
    }

    private static void booksAreThoseThereAre() {
        used().tells("hungers(-1, 0, 0, 1)", BAD).tells("hungers(3, 0, 0, 1)", BAD);
        used().tells("hungers(MOST, 0, 0, 1)", BAD).tells("hungers(LEAST, 0, 0, 1)", BAD);
        run().does("row(0, 0, 1)").tells("hungers(0, 0, 0, 1)", BAD);
    }

    private static void rowsAre0To7() {
        used().tells("hungers(0, -1, 0, 1)", BAD).tells("hungers(0, 8, 0, 1)", BAD);
        used().tells("hungers(0, MOST, 0, 1)", BAD).tells("hungers(0, LEAST, 0, 1)", BAD);
        told("l3,0;b9,0;w0;").tell(7, 8).tells("hungers(0, 7, 0, 1)", 2);
    }

    private static void aMissingRowIsNull() {
        used().tells("hungers(0, 3, 0, 1)", NULL).tells("hungers(0, 7, -1, 12)", NULL);
    }

    private static void placesAreOfTheRow() {
        used().tells("hungers(0, 0, -1, 1)", PLACE).tells("hungers(0, 0, 3, 1)", PLACE);
        used().tells("hungers(0, 0, 0, 4)", PLACE).tells("hungers(0, 0, 2, 2)", PLACE);
        used().tells("hungers(0, 2, 29, 12)", PLACE).tells("hungers(0, 2, 28, 12)", 0).tells("hungers(0, 0, 2, 1)", 0);
        used().tells("hungers(0, 2, MOST, 12)", PLACE).tells("hungers(0, 2, LEAST, 12)", PLACE);
        used().does("row(3, 2, 0)").tells("hungers(0, 3, 0, 1)", PLACE);
    }
}
