import java.util.ArrayList;
import java.util.Collections;
import java.util.List;
import java.util.Random;

/** Promises 19 to 32: what is foretold changes nothing, so that it is the same in whatever order one asks. */
public final class Promise19To32NothingChanges extends Promise {
    private static final String[] CALLS = {"ahead(0, 60, 0)", "ahead(1, 3, 1)", "later(0, 60, 0)", "later(1, 7, 1)",
        "when(0)", "when(2)", "first(0)", "first(1)", "hole(0, 60)", "hole(1, 2)", "hole(0, 0)", "order(7, 12, -1)",
        "order(2, 3, 0)", "order(5, 1, 2)", "lamp(0, 60, 0)", "lamp(1, 9, 1)", "caught(0, 60, 0)", "caught(2, 1, 1)",
        "grams(0, 999)", "grams(1, 10)", "who(0, 0, 0, 0, 0, 2)", "who(1, 1, 1, 0, 0, 1)", "paste(0, 0, 0, 0, 2)",
        "paste(1, 2, 0, 1, 1)", "hungers(0, 0, 0, 2)", "hungers(2, 0, 0, 1)", "dark(0, 60, 3, 0)", "dark(1, 4, 7, 1)",
        "drawn(60, 1, 0)", "drawn(9, 999999, 1)", "ahead(0, 0, 0)", "book(0, 0)", "book(1, 1)", "fish(0, 0)",
        "fish(1, 2)", "stand(0)", "stand(3)", "stand(4)", "count(3)", "count(5)", "count(6)"};

    public static void main(String[] args) {
        eachLeavesAllAsItIs();
        allAnswerTheSameInAnyOrder();
        end();
    }

    private static Run library() {
        Run x = told("l3,2;b30,5;b25,8;b41,2;r0;w1;c2;p1;s0;").tell(0, 24, 21).due("nights(2)", 66);
        return x.does("light(1, 1)", "keepIt(2, 1)", "change(0, 1)", "catchIt(3)");
    }

    private static long answer(String call) {
        return library().answers(call);
    }

    private static void eachLeavesAllAsItIs() {
        for (String call : CALLS) {
            library().tells(call, answer(call));
        }
    }

    private static void allAnswerTheSameInAnyOrder() {
        for (int run = 0; run < 20; run++) {
            List<String> calls = new ArrayList<>(List.of(CALLS));
            calls.addAll(List.of(CALLS));
            Collections.shuffle(calls, new Random(run));
            Run x = library();
            for (String call : calls) {
                x.due(call, answer(call));
            }
        }
    }
}
