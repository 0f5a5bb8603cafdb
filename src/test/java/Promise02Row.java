/** Promise 2: row, with what section 1 of the terms says of rows. */
public final class Promise02Row extends Promise {

    public static void main(String[] args) {
        rowsAre0To7();
        lanesAre0To2();
        takes0To40Items();
        aboveFortyIsBad();
        fewerThanNoneIsSize();
        badIsAheadOfSize();
        itemsAre0AtFirst();
        standsInPlaceOfWhatIsThere();
        allEightStandAtOnce();
        end();
    }

    private static void rowsAre0To7() {
        run().due("row(0, 0, 1)", 1).due("row(7, 0, 1)", 1).tells("count(0)", 2);
        used().tells("row(-1, 0, 1)", BAD).tells("row(8, 0, 1)", BAD);
        used().tells("row(LEAST, 0, 1)", BAD).tells("row(MOST, 0, 1)", BAD);
    }

    private static void lanesAre0To2() {
        run().due("row(0, 0, 1)", 1).due("set(0, 0, 70000)", 112);
        run().due("row(0, 1, 1)", 1).due("set(0, 0, 70000)", 4464);
        run().due("row(0, 2, 1)", 1).due("set(0, 0, 70000)", 70000);
        used().tells("row(0, -1, 1)", BAD).tells("row(0, 3, 1)", BAD);
        used().tells("row(0, LEAST, 1)", BAD).tells("row(0, MOST, 1)", BAD);
    }

    private static void takes0To40Items() {
        for (int lane = 0; lane < 3; lane++) {
            run().due("row(3, " + lane + ", 0)", 0).due("set(3, 0, 1)", PLACE).due("drop(3)", 0);
            run().due("row(3, " + lane + ", 1)", 1).due("set(3, 0, 1)", 1).due("set(3, 1, 1)", PLACE);
            run().due("row(3, " + lane + ", 39)", 39).due("set(3, 38, 1)", 1).due("set(3, 39, 1)", PLACE);
            run().due("row(3, " + lane + ", 40)", 40).due("set(3, 39, 1)", 1).due("set(3, 40, 1)", PLACE);
        }
    }

    private static void aboveFortyIsBad() {
        used().tells("row(0, 0, 41)", BAD).tells("row(5, 2, 41)", BAD).tells("row(0, 0, MOST)", BAD);
    }

    private static void fewerThanNoneIsSize() {
        used().tells("row(0, 0, -1)", SIZE).tells("row(5, 2, -1)", SIZE).tells("row(0, 0, LEAST)", SIZE);
        used().due("row(5, 0, -1)", SIZE).tells("drop(5)", NULL);
        used().due("row(2, 0, -1)", SIZE).tells("set(2, 40, 0)", PLACE).due("drop(2)", 40);
    }

    private static void badIsAheadOfSize() {
        used().tells("row(-1, 0, -1)", BAD).tells("row(8, 0, -1)", BAD);
        used().tells("row(0, -1, -1)", BAD).tells("row(0, 3, -1)", BAD);
    }

    private static void itemsAre0AtFirst() {
        run().does("row(2, 1, 40)").itemsAre(2, new int[40]);
    }

    private static void standsInPlaceOfWhatIsThere() {
        Run x = run().tell(1, 11, 12, 13).tell(2, 21, 22);
        x.due("row(1, 2, 3)", 3).itemsAre(1, 0, 0, 0).itemsAre(2, 21, 22);
        x.tell(1, 14, 15, 16).due("row(1, 0, 5)", 5).itemsAre(1, 0, 0, 0, 0, 0).due("set(1, 4, 300)", 44);
        x.due("row(1, 1, 1)", 1).itemsAre(1, 0).tells("set(1, 1, 1)", PLACE).due("row(1, 2, 3)", 3);
        x.itemsAre(1, 0, 0, 0).itemsAre(2, 21, 22).tells("count(0)", 2);
    }

    private static void allEightStandAtOnce() {
        Run x = run();
        for (int row = 0; row < 8; row++) {
            x.due("row(" + row + ", " + row % 3 + ", 40)", 40);
            x.due("set(" + row + ", 0, " + (10 + row) + ")", 10 + row);
            x.due("set(" + row + ", 39, " + (20 + row) + ")", 20 + row);
        }
        x.tells("count(0)", 8);
        for (int row = 0; row < 8; row++) {
            int[] items = new int[40];
            items[0] = 10 + row;
            items[39] = 20 + row;
            x.itemsAre(row, items);
        }
    }
}
