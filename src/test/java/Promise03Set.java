/** Promise 3: set. */
public final class Promise03Set extends Promise {

    public static void main(String[] args) {
        bytesWrapAround();
        shortsWrapAround();
        intsAreAsTheyAre();
        theItemBecomesThat();
        rowsAre0To7();
        aMissingRowIsNull();
        placesAreOfTheRow();
        badThenNullThenPlace();
        end();
    }

    private static void bytesWrapAround() {
        Run x = run().does("row(0, 0, 1)");
        x.due("set(0, 0, 127)", 127).due("set(0, 0, 128)", -128).due("set(0, 0, 255)", -1).due("set(0, 0, 256)", 0);
        x.due("set(0, 0, 257)", 1).due("set(0, 0, -128)", -128).due("set(0, 0, -129)", 127);
        x.due("set(0, 0, -1)", -1).due("set(0, 0, -256)", 0).due("set(0, 0, 32768)", 0);
        x.due("set(0, 0, MOST)", -1).due("set(0, 0, LEAST)", 0);
    }

    private static void shortsWrapAround() {
        Run x = run().does("row(0, 1, 1)");
        x.due("set(0, 0, 127)", 127).due("set(0, 0, 128)", 128).due("set(0, 0, -129)", -129);
        x.due("set(0, 0, 32767)", 32767).due("set(0, 0, 32768)", -32768).due("set(0, 0, 65535)", -1);
        x.due("set(0, 0, 65536)", 0).due("set(0, 0, -32768)", -32768).due("set(0, 0, -32769)", 32767);
        x.due("set(0, 0, MOST)", -1).due("set(0, 0, LEAST)", 0);
    }

    private static void intsAreAsTheyAre() {
        Run x = run().does("row(0, 2, 1)");
        x.due("set(0, 0, 32768)", 32768).due("set(0, 0, 65536)", 65536).due("set(0, 0, -32769)", -32769);
        x.due("set(0, 0, MOST)", Integer.MAX_VALUE).due("set(0, 0, LEAST)", Integer.MIN_VALUE);
    }

    private static void theItemBecomesThat() {
        run().does("row(0, 0, 3)").due("set(0, 1, 300)", 44).itemsAre(0, 0, 44, 0);
        run().does("row(0, 1, 3)").due("set(0, 2, 65590)", 54).itemsAre(0, 0, 0, 54);
        run().does("row(0, 2, 3)").due("set(0, 0, 99)", 99).itemsAre(0, 99, 0, 0);
        run().tell(0, 1, 2, 3).tell(1, 4, 5).due("set(0, 1, 7)", 7).itemsAre(0, 1, 7, 3).itemsAre(1, 4, 5);
    }

    private static void rowsAre0To7() {
        run().does("row(0, 2, 1)", "row(7, 2, 1)").due("set(0, 0, 5)", 5).due("set(7, 0, 6)", 6);
        used().tells("set(-1, 0, 9)", BAD).tells("set(8, 0, 9)", BAD);
        used().tells("set(LEAST, 0, 9)", BAD).tells("set(MOST, 0, 9)", BAD);
    }

    private static void aMissingRowIsNull() {
        used().tells("set(3, 0, 9)", NULL).tells("set(7, 0, 9)", NULL);
        used().does("drop(2)").tells("set(2, 39, 9)", NULL);
    }

    private static void placesAreOfTheRow() {
        used().tells("set(0, -1, 9)", PLACE).tells("set(0, 3, 9)", PLACE);
        used().tells("set(2, 40, 9)", PLACE).tells("set(2, MOST, 9)", PLACE).tells("set(2, LEAST, 9)", PLACE);
        used().due("set(0, 0, 8)", 8).due("set(0, 2, 8)", 8).due("set(2, 0, 8)", 8).due("set(2, 39, 8)", 8);
        used().does("row(3, 2, 0)").tells("set(3, 0, 9)", PLACE).tells("set(3, -1, 9)", PLACE);
    }

    private static void badThenNullThenPlace() {
        used().tells("set(8, -1, 9)", BAD).tells("set(3, -1, 9)", NULL).tells("set(3, 40, 9)", NULL);
    }
}
