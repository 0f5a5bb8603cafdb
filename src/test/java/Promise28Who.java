/** Promise 28: who. */
public final class Promise28Who extends Promise {

    public static void main(String[] args) {
        tellsKinds();
        tellsPlaces();
        allThatFits();
        rowsOfEachLaneTell();
        nightsAre1To12();
        fishAreThoseThereAre();
        whichIs0Or1();
        booksAreThoseThereAre();
        rowsAre0To7();
        aCaughtOneIsStateBehindBad();
        aMissingRowIsNull();
        placesAreOfTheRow();
        end();
    }

    private static Run scholar() {
        return told("l3,0;b40,0;b40,0;s0;");
    }

    private static void tellsKinds() {
        Run x = scholar().tell(2, 99, 37, 34).tell(3, 40, 37);
        x.tells("who(0, 0, 0, 2, 1, 2)", 46).tells("who(0, 0, 0, 2, 1, 1)", 46).tells("who(0, 0, 1, 2, 1, 2)", 0);
        x.tells("who(0, 0, 0, 3, 0, 2)", 16).tells("who(0, 0, 0, 2, 0, 1)", 0).tells("who(0, 0, 1, 3, 0, 1)", 46);
        x = told("l1,1;b50,0;b9,0;b29,3;c0;").tell(0, 9, 9).tell(1, 8).does("light(0, 1)");
        // lit where it is: a reader goes to 1, a critic two places up
        x.tells("who(0, 0, 1, 0, 0, 1)", 8).tells("who(0, 0, 1, 1, 0, 1)", 54);
        x = told("l1,0;b9,2;b0,0;b40,0;r1;").tell(0, 8).tell(1, 9);
        x.tells("who(0, 0, 0, 0, 0, 1)", 4).tells("who(0, 0, 0, 1, 0, 1)", 58);
    }

    private static void tellsPlaces() {
        Run x = scholar().tell(2, 37, 34).tell(3, 40, 40);
        x.tells("who(0, 1, 0, 2, 0, 2)", 1).tells("who(0, 1, 0, 3, 0, 2)", 2).tells("who(0, 1, 1, 2, 0, 2)", 2);
        x = told("l1,0;b9,0;b9,0;b9,0;b9,0;b9,0;b9,0;w3;").tell(0, 9, 8);
        x.tells("who(0, 1, 0, 0, 1, 1)", 32).tells("who(0, 1, 0, 0, 0, 2)", 16).tells("who(0, 1, 5, 0, 1, 1)", 16);
        told("l1,0;b9,0;w0;").tell(0, 8, 7).tells("who(0, 1, 0, 0, 0, 2)", 1);
        x = scholar().does("nights(2)", "change(0, 1)").tell(1, 31, 28).tells("who(0, 1, 0, 1, 0, 2)", 2);
        x.tells("who(0, 0, 0, 1, 0, 1)", 16).tells("who(0, 0, 1, 1, 0, 1)", 0);
    }

    private static void allThatFits() {
        Run x = told("l1,0;b0,0;b0,0;b0,0;b0,0;b0,0;b0,0;r0;").tell(0, 0, 0, 1);
        x.tells("who(0, 0, 0, 0, 0, 2)", 62).tells("who(0, 1, 0, 0, 0, 2)", 63);
        x.tells("who(0, 0, 0, 0, 0, 3)", 0).tells("who(0, 1, 0, 0, 0, 3)", 0);
    }

    private static void rowsOfEachLaneTell() {
        for (int lane = 0; lane < 3; lane++) {
            Run x = scholar().does("row(5, " + lane + ", 2)", "set(5, 0, 37)", "set(5, 1, 34)");
            x.tells("who(0, 0, 0, 5, 0, 2)", 46).tells("who(0, 1, 0, 5, 0, 2)", 1);
        }
        Run x = scholar().tell(0, -1000000, Integer.MIN_VALUE, Integer.MAX_VALUE, 293);
        for (int i = 0; i < 4; i++) {
            x.tells("who(0, 0, 0, 0, " + i + ", 1)", 0);
        }
    }

    private static void nightsAre1To12() {
        Run x = told("l1,0;b99,0;w0;").tell(0, 98, 97, 96, 95, 94, 93, 92, 91, 90, 89, 88, 87, 86);
        x.tells("who(0, 0, 0, 0, 0, 1)", 62).tells("who(0, 0, 0, 0, 0, 12)", 62).tells("who(0, 1, 0, 0, 0, 12)", 1);
        x.tells("who(0, 0, 0, 0, 1, 12)", 0).tells("who(0, 0, 0, 0, 0, 13)", BAD).tells("who(0, 0, 0, 0, 0, 0)", BAD);
        x.does("set(0, 11, 88)").tells("who(0, 0, 0, 0, 0, 12)", 0).tells("who(0, 0, 0, 0, 0, 11)", 62);
        used().tells("who(0, 0, 0, 0, 0, -1)", BAD).tells("who(0, 0, 0, 0, 0, MOST)", BAD);
        used().tells("who(0, 0, 0, 0, 0, LEAST)", BAD).tells("who(0, 0, 0, 7, 0, 0)", BAD)
                .tells("who(0, 0, 0, 2, 0, 13)", BAD);
    }

    private static void fishAreThoseThereAre() {
        used().tells("who(-1, 0, 0, 0, 0, 1)", BAD).tells("who(3, 0, 0, 0, 0, 1)", BAD);
        used().tells("who(MOST, 0, 0, 0, 0, 1)", BAD).tells("who(LEAST, 0, 0, 0, 0, 1)", BAD);
        run().does("row(0, 0, 1)").tells("who(0, 0, 0, 0, 0, 1)", BAD);
        scholar().tell(0, 37).tells("who(1, 0, 0, 0, 0, 1)", BAD).tells("who(0, 0, 1, 0, 0, 1)", 16);
        told("l1,0;b9,0;w0;w0;w0;w0;w0;").tell(0, 4).tells("who(4, 1, 0, 0, 0, 1)", 1)
                .tells("who(5, 1, 0, 0, 0, 1)", BAD);
    }

    private static void whichIs0Or1() {
        used().tells("who(0, -1, 0, 0, 0, 1)", BAD).tells("who(0, 2, 0, 0, 0, 1)", BAD);
        used().tells("who(0, MOST, 0, 0, 0, 1)", BAD).tells("who(0, LEAST, 0, 0, 0, 1)", BAD);
    }

    private static void booksAreThoseThereAre() {
        used().tells("who(0, 0, -1, 0, 0, 1)", BAD).tells("who(0, 0, 3, 0, 0, 1)", BAD);
        used().tells("who(0, 0, MOST, 0, 0, 1)", BAD).tells("who(0, 0, LEAST, 0, 0, 1)", BAD);
    }

    private static void rowsAre0To7() {
        used().tells("who(0, 0, 0, -1, 0, 1)", BAD).tells("who(0, 0, 0, 8, 0, 1)", BAD);
        used().tells("who(0, 0, 0, MOST, 0, 1)", BAD).tells("who(0, 0, 0, LEAST, 0, 1)", BAD);
        scholar().tell(7, 37).tells("who(0, 0, 0, 7, 0, 1)", 46);
    }

    private static void aCaughtOneIsStateBehindBad() {
        used().tells("who(2, 0, 0, 0, 0, 1)", STATE).tells("who(2, 1, 0, 0, 0, 1)", STATE);
        used().tells("who(2, 0, 0, 7, 0, 1)", STATE).tells("who(2, 0, 0, 0, -1, 1)", STATE);
        used().tells("who(2, 2, 0, 0, 0, 1)", BAD).tells("who(2, 0, 3, 0, 0, 1)", BAD);
        used().tells("who(2, 0, 0, 8, 0, 1)", BAD).tells("who(2, 0, 0, 0, 0, 0)", BAD)
                .tells("who(2, 0, 0, 0, 0, 13)", BAD);
    }

    private static void aMissingRowIsNull() {
        used().tells("who(0, 0, 0, 3, 0, 1)", NULL).tells("who(0, 1, 0, 7, 0, 12)", NULL)
                .tells("who(0, 0, 0, 3, -1, 1)", NULL);
    }

    private static void placesAreOfTheRow() {
        used().tells("who(0, 0, 0, 0, -1, 1)", PLACE).tells("who(0, 0, 0, 0, 3, 1)", PLACE);
        used().tells("who(0, 0, 0, 0, 0, 4)", PLACE).tells("who(0, 1, 0, 0, 1, 3)", PLACE);
        used().tells("who(0, 0, 0, 2, 29, 12)", PLACE).tells("who(0, 0, 0, 2, 40, 1)", PLACE);
        used().tells("who(0, 0, 0, 2, 28, 12)", 0).tells("who(0, 0, 0, 0, 2, 1)", 0);
        used().tells("who(0, 0, 0, 2, MOST, 12)", PLACE).tells("who(0, 0, 0, 2, LEAST, 12)", PLACE);
        used().does("row(3, 2, 0)").tells("who(0, 0, 0, 3, 0, 1)", PLACE);
    }
}
