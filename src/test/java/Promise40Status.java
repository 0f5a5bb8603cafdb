/** Promise 40: status. */
public final class Promise40Status extends Promise {

    public static void main(String[] args) {
        is0IfThereWasNone();
        tellsEachFinding();
        is0BehindACallThatHadNone();
        badStateAndFullLeaveIt();
        callsWithoutARowLeaveIt();
        end();
    }

    /** Status 4, a library, rows 0 and 1 of two lanes. */
    private static Run four() {
        Run x = told("l4,2;b30,5;b60,1;r0;w1;").does("row(0, 0, 2)", "row(1, 1, 2)", "row(5, 0, -1)");
        return x.due("status()", 4);
    }

    private static void is0IfThereWasNone() {
        run().tells("status()", 0).does("row(8, 0, 1)", "as(0, 0)", "set(-1, 0, 0)").tells("status()", 0);
        told("l1,0;b1,0;r0;").does("nights(1)", "undo()", "undo()", "light(0, 1)", "feed(256)").tells("status()", 0);
    }

    private static void tellsEachFinding() {
        four().does("set(2, 0, 0)").tells("status()", 1).does("set(0, 2, 0)").tells("status()", 2);
        four().does("as(0, 2)").tells("status()", 3).does("row(0, 0, -1)").tells("status()", 4);
        four().does("copy(0, 0, 1, 0, 1)").tells("status()", 5).does("copy(0, 0, 2, 0, 1)").tells("status()", 1);
        four().does("copy(0, 0, 0, 1, 2)").tells("status()", 2).does("drop(2)").tells("status()", 1);
        four().does("who(0, 0, 0, 2, 0, 1)").tells("status()", 1).does("who(0, 0, 0, 0, 2, 1)").tells("status()", 2);
        four().does("paste(0, 0, 2, 0, 1)").tells("status()", 1).does("paste(0, 0, 0, 2, 1)").tells("status()", 2);
        four().does("hungers(0, 2, 0, 1)").tells("status()", 1).does("hungers(0, 0, 2, 1)").tells("status()", 2);
    }

    private static void is0BehindACallThatHadNone() {
        for (String call : new String[] {"row(0, 0, 1)", "row(6, 2, 0)", "set(0, 1, 300)", "copy(0, 0, 0, 1, 1)",
            "copy(0, 0, 0, 0, 0)", "drop(0)", "who(0, 0, 0, 0, 0, 1)", "who(0, 1, 0, 0, 0, 2)", "paste(0, 1, 0, 0, 1)",
            "hungers(0, 0, 0, 1)", "as(0, 1)", "as(1, 0)"}) {
            four().does(call).tells("status()", 0);
        }
        // a value that looks like a finding is none
        four().does("row(3, 2, 1)").due("set(3, 0, -1000011)", -1000011).tells("status()", 0);
    }

    private static void badStateAndFullLeaveIt() {
        for (String call : new String[] {"row(8, 0, 1)", "row(0, 3, -1)", "row(0, 0, 41)", "set(8, 0, 0)",
            "copy(8, 0, 0, 0, 1)", "copy(0, 0, -1, 0, 1)", "drop(8)", "who(2, 0, 0, 0, 0, 1)", "who(0, 0, 0, 5, 0, 13)",
            "paste(0, 2, 0, 0, 1)", "paste(0, 0, 5, 0, 0)", "hungers(2, 0, 0, 1)", "hungers(0, 8, 0, 1)", "as(2, 0)",
            "as(0, 6)", "as(0, -1)"}) {
            four().due(call, BAD).tells("status()", 4);
        }
        four().does("catchIt(0)").due("who(0, 0, 0, 0, 0, 1)", STATE).due("who(0, 0, 0, 5, 0, 1)", STATE)
                .due("status()", 4);
    }

    private static void callsWithoutARowLeaveIt() {
        Run x = four()
                .does("feed(256)", "feed(108)", "library()", "fault()", "undo()", "nights(1)", "nights(0)")
                .does("light(0, 1)");
        x.does("light(0, 1)", "keepIt(0, 1)", "change(0, 1)", "move(0, 1)", "move(0, 2)", "catchIt(0)", "catchIt(0)");
        x.does("book(0, 0)", "fish(0, 0)", "stand(0)", "ahead(0, 0, 0)", "later(0, 0, 0)", "when(0)", "first(0)");
        x.does("hole(0, 0)", "order(0, 1, 0)", "lamp(0, 1, 0)", "caught(0, 1, 0)", "grams(0, 0)", "dark(0, 1, 1, 0)");
        x.does("drawn(1, 1, 0)", "image(0)", "restore(0)", "restore(1)", "kind(0)", "kind(9)");
        x.does("ask(0, 0)", "ask(0, 9)", "trace(0)", "count(0)", "count(9)", "status()").told("l1,0;b1,0;r0;").due("status()", 4);
    }
}
