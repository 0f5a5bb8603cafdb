/** What the tests of one promise each share: answers by their names, and objects to begin with. */
abstract class Promise {
    static final int NONE = Due.NONE, BAD = Due.BAD, STATE = Due.STATE, FULL = Due.FULL;
    static final int NULL = Due.NULL, PLACE = Due.PLACE, KIND = Due.KIND, SIZE = Due.SIZE, STORE = Due.STORE;

    static Run run() {
        return new Run();
    }

    static Run told(String text) {
        return new Run().told(text);
    }

    /**
     * An object in which nothing is as it was at first: pages 28, 45, 3 in places 2, 1, 0; a reader at 0, a wanderer
     * at 1, a critic that is caught; book 1 lit (one lamp), book 0 kept; six acts, an image, rows 0, 1 and 2 of each
     * lane, an ask, a fault, a finding, a tape within a library.
     */
    static Run used() {
        Run x = run().does("row(0, 0, 3)", "set(0, 0, 9)", "set(0, 2, 9)", "row(1, 1, 2)", "row(2, 2, 40)");
        x.does("set(2, 39, 9)").feed("l0").due("library()", -1000101);
        x.told("l2,1;b30,5;b45,1;b7,9;r0;w1;c2;");
        x.due("nights(1)", 76).due("image(0)", 1);
        x.due("light(1, 1)", 2).due("keepIt(0, 1)", 1).due("change(0, 2)", 2);
        x.due("move(1, 1)", 2).due("catchIt(2)", 4);
        return x.due("ask(0, 0)", 2).due("as(0, 2)", KIND).feed("l5,3;b");
    }

    static void end() {
        Due.end();
    }
}
