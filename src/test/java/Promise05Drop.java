/** Promise 5: drop. */
public final class Promise05Drop extends Promise {

    public static void main(String[] args) {
        tellsHowManyItemsItHad();
        theRowIsMissingFromNowOn();
        othersStay();
        rowsAre0To7();
        aMissingRowIsNull();
        end();
    }

    private static void tellsHowManyItemsItHad() {
        for (int n : new int[] {0, 1, 17, 39, 40}) {
            run().does("row(0, 2, " + n + ")").due("drop(0)", n);
            run().does("row(7, 0, " + n + ")").due("drop(7)", n);
        }
    }

    private static void theRowIsMissingFromNowOn() {
        Run x = run().tell(3, 5, 6).due("drop(3)", 2);
        x.tells("drop(3)", NULL).tells("set(3, 0, 1)", NULL).tells("copy(3, 0, 3, 0, 0)", NULL).tells("count(0)", 0);
        x.due("row(3, 2, 2)", 2).itemsAre(3, 0, 0);
    }

    private static void othersStay() {
        run().tell(2, 1).tell(3, 2).tell(4, 3).due("drop(3)", 1).itemsAre(2, 1).itemsAre(4, 3).tells("count(0)", 2);
    }

    private static void rowsAre0To7() {
        used().tells("drop(-1)", BAD).tells("drop(8)", BAD).tells("drop(LEAST)", BAD).tells("drop(MOST)", BAD);
    }

    private static void aMissingRowIsNull() {
        used().tells("drop(3)", NULL).tells("drop(7)", NULL);
    }
}
