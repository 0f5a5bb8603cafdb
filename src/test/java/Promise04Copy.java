/** Promise 4: copy. */
public final class Promise04Copy extends Promise {

    public static void main(String[] args) {
        itemsComeFromOneToTheOther();
        wholeRowsAreCopied();
        noneIsCopiedUpToTheEnds();
        withinARowTheyAreAsTheyWereAhead();
        eachLaneIsCopied();
        rowsAre0To7();
        missingRowsAreNull();
        otherLanesAreStore();
        placesAreOfBothRows();
        badThenNullThenStoreThenPlace();
        end();
    }

    private static Run two() {
        return run().tell(0, 10, 11, 12, 13, 14).tell(1, 20, 21, 22, 23, 24, 25);
    }

    private static void itemsComeFromOneToTheOther() {
        two().due("copy(0, 1, 1, 3, 2)", 2).itemsAre(1, 20, 21, 22, 11, 12, 25).itemsAre(0, 10, 11, 12, 13, 14);
        two().due("copy(1, 5, 0, 4, 1)", 1).itemsAre(0, 10, 11, 12, 13, 25);
        two().due("copy(1, 0, 0, 0, 5)", 5).itemsAre(0, 20, 21, 22, 23, 24);
        two().due("copy(0, 0, 1, 1, 5)", 5).itemsAre(1, 20, 10, 11, 12, 13, 14);
    }

    private static void wholeRowsAreCopied() {
        Run x = run().does("row(6, 1, 40)", "row(7, 1, 40)", "set(6, 0, 3)", "set(6, 39, 4)");
        int[] items = new int[40];
        items[0] = 3;
        items[39] = 4;
        x.due("copy(6, 0, 7, 0, 40)", 40).itemsAre(7, items).itemsAre(6, items);
        x.tells("copy(6, 0, 7, 0, 41)", PLACE).tells("copy(6, 1, 7, 0, 40)", PLACE);
        x.tells("copy(6, 0, 7, 1, 40)", PLACE);
    }

    private static void noneIsCopiedUpToTheEnds() {
        two().tells("copy(0, 0, 1, 0, 0)", 0).tells("copy(0, 5, 1, 6, 0)", 0).tells("copy(0, 5, 0, 5, 0)", 0);
        two().tells("copy(0, 6, 1, 0, 0)", PLACE).tells("copy(0, 0, 1, 7, 0)", PLACE);
        run().does("row(0, 0, 0)").tells("copy(0, 0, 0, 0, 0)", 0).tells("copy(0, 0, 0, 0, 1)", PLACE);
    }

    private static void withinARowTheyAreAsTheyWereAhead() {
        two().due("copy(0, 0, 0, 1, 4)", 4).itemsAre(0, 10, 10, 11, 12, 13);
        two().due("copy(0, 1, 0, 0, 4)", 4).itemsAre(0, 11, 12, 13, 14, 14);
        two().due("copy(0, 0, 0, 2, 3)", 3).itemsAre(0, 10, 11, 10, 11, 12);
        two().tells("copy(0, 0, 0, 0, 5)", 5).tells("copy(0, 3, 0, 3, 2)", 2);
    }

    private static void eachLaneIsCopied() {
        for (int lane = 0; lane < 3; lane++) {
            Run x = run().does("row(4, " + lane + ", 2)", "row(5, " + lane + ", 2)", "set(4, 1, 9)");
            x.due("copy(4, 1, 5, 0, 1)", 1).itemsAre(5, 9, 0).itemsAre(4, 0, 9);
        }
    }

    private static void rowsAre0To7() {
        used().tells("copy(-1, 0, 0, 0, 1)", BAD).tells("copy(8, 0, 0, 0, 1)", BAD);
        used().tells("copy(0, 0, -1, 0, 1)", BAD).tells("copy(0, 0, 8, 0, 1)", BAD);
        used().tells("copy(LEAST, 0, 0, 0, 1)", BAD).tells("copy(0, 0, MOST, 0, 1)", BAD);
    }

    private static void missingRowsAreNull() {
        used().tells("copy(3, 0, 0, 0, 1)", NULL).tells("copy(0, 0, 3, 0, 1)", NULL).tells("copy(3, 0, 3, 0, 0)", NULL);
        used().tells("copy(3, 0, 7, 0, 0)", NULL);
    }

    private static void otherLanesAreStore() {
        used().tells("copy(0, 0, 1, 0, 1)", STORE).tells("copy(1, 0, 0, 0, 1)", STORE);
        used().tells("copy(0, 0, 2, 0, 1)", STORE).tells("copy(2, 0, 1, 0, 1)", STORE);
        used().tells("copy(0, 0, 1, 0, 0)", STORE);
    }

    private static void placesAreOfBothRows() {
        Run x = two();
        x.tells("copy(0, -1, 1, 0, 1)", PLACE).tells("copy(0, 0, 1, -1, 1)", PLACE)
                .tells("copy(0, 0, 1, 0, -1)", PLACE);
        x.tells("copy(0, -1, 1, 0, 0)", PLACE).tells("copy(0, 0, 1, -1, 0)", PLACE)
                .tells("copy(0, 1, 1, 1, -1)", PLACE);
        x.tells("copy(0, 0, 1, 0, 6)", PLACE).tells("copy(0, 1, 1, 0, 5)", PLACE).tells("copy(0, 5, 1, 0, 1)", PLACE);
        x.tells("copy(1, 0, 0, 0, 6)", PLACE).tells("copy(1, 0, 0, 1, 5)", PLACE).tells("copy(1, 0, 0, 5, 1)", PLACE);
        x.tells("copy(0, MOST, 1, 0, 1)", PLACE).tells("copy(0, 0, 1, MOST, 1)", PLACE);
        x.tells("copy(0, 0, 1, 0, MOST)", PLACE).tells("copy(0, MOST, 1, MOST, MOST)", PLACE);
        x.tells("copy(0, LEAST, 1, 0, 1)", PLACE).tells("copy(0, 0, 1, LEAST, 1)", PLACE);
        x.tells("copy(0, 1, 1, 1, LEAST)", PLACE).tells("copy(0, LEAST, 1, LEAST, LEAST)", PLACE);
        x.itemsAre(0, 10, 11, 12, 13, 14).itemsAre(1, 20, 21, 22, 23, 24, 25);
    }

    private static void badThenNullThenStoreThenPlace() {
        used().tells("copy(3, -1, 8, 0, 1)", BAD).tells("copy(3, -1, 0, -1, -1)", NULL);
        used().tells("copy(0, -1, 3, 0, 99)", NULL).tells("copy(0, -1, 1, -1, -1)", STORE);
        used().tells("copy(0, 99, 2, 99, 99)", STORE);
    }
}
