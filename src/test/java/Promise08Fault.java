/** Promise 8: fault, and of one token the least. */
public final class Promise08Fault extends Promise {

    public static void main(String[] args) {
        is0BeforeOne();
        oneOfEachNumber();
        ofOneTokenTheLeast();
        theLatestIsTold();
        isNotForgottenByARightText();
        staysWithAllElse();
        end();
    }

    private static void is0BeforeOne() {
        run().tells("fault()", 0);
        told("l1,0;b0,0;r0;").tells("fault()", 0);
    }

    private static void oneOfEachNumber() {
        run().feed("x").due("library()", -1000100).due("fault()", 1);
        run().feed("l0").due("library()", -1000101).due("fault()", 2);
        run().feed("l1,0;b0,0;r0;r0;r0;r0;r0;r").due("library()", -1000125).due("fault()", 3);
    }

    private static void ofOneTokenTheLeast() {
        String six = "l1,0;" + "b0,0;".repeat(6);
        String five = "l1,0;b0,0;" + "r0;".repeat(5);
        run().isFaulty("l100", 1, 1).isFaulty("l000", 1, 1).isFaulty("b0", 0, 1).isFaulty("l1,0;99", 5, 1);
        run().isFaulty(six + "l", 35, 1).isFaulty(six + "b", 35, 3).isFaulty(six + "r0;b", 38, 1);
        run().isFaulty(five + "b", 25, 1).isFaulty(five + "x", 25, 1).isFaulty(five + "s", 25, 3);
        run().isFaulty("l1,0;b0,0;" + "r0;".repeat(4) + "b", 22, 1);
    }

    private static void theLatestIsTold() {
        Run x = run().feed("l0").does("library()").due("fault()", 2).feed("x").does("library()").due("fault()", 1);
        x.feed("l1,0;b0,0;r0;r0;r0;r0;r0;r").does("library()").due("fault()", 3).does("library()").due("fault()", 1);
    }

    private static void isNotForgottenByARightText() {
        run().feed("l0").does("library()").told("l1,0;b0,0;r0;").tells("fault()", 2);
    }

    private static void staysWithAllElse() {
        used().does("undo()", "restore(0)", "drop(0)", "as(0, 9)", "nights(1)").tells("fault()", 2);
    }
}
