/** Promise 25: lamp. */
public final class Promise25Lamp extends Promise {

    public static void main(String[] args) {
        tellsPagesAndWhich();
        lampsAtMost();
        justTheseAreLit();
        keptOnesStayKept();
        ofTheseThatOfFewest();
        thenTheLeast();
        nightsAre1To60();
        whatIs0Or1();
        booksAreThoseThereAre();
        end();
    }

    private static void lampIs(Run x, int book, int n, int pages, int which) {
        x.tells("lamp(" + book + ", " + n + ", 0)", pages).tells("lamp(" + book + ", " + n + ", 1)", which);
    }

    private static void tellsPagesAndWhich() {
        Run x = told("l9,2;b10,0;b20,0;b30,0;s1;");
        lampIs(x, 0, 1, 10, 0);
        lampIs(x, 1, 1, 20, 2);
        lampIs(x, 1, 60, 20, 2);
        lampIs(x, 2, 1, 30, 0);
        lampIs(told("l1,1;b9,0;b9,0;b9,0;b9,0;b9,0;b9,0;s5;"), 5, 1, 9, 32);
        lampIs(told("l1,1;b0,0;w0;"), 0, 60, 0, 0);
        lampIs(told("l1,1;b9,0;w0;"), 0, 1, 9, 1);
        lampIs(told("l1,1;b9,0;w0;"), 0, 60, 9, 1);
    }

    private static void lampsAtMost() {
        lampIs(told("l9,0;b10,0;b20,0;b30,0;s1;"), 1, 1, 11, 0);
        lampIs(told("l9,0;b10,0;b20,0;b30,0;s1;"), 1, 60, 0, 0);
        lampIs(told("l9,1;b10,0;b20,0;b30,0;s1;"), 1, 1, 20, 2);
        lampIs(told("l9,8;b10,0;b20,0;b30,0;s1;"), 1, 1, 20, 2);
    }

    private static void justTheseAreLit() {
        Run x = told("l1,1;b9,0;b9,9;r1;").does("light(1, 1)").tells("ahead(0, 1, 0)", 8);
        lampIs(x, 0, 1, 9, 0);
        lampIs(x, 1, 1, 9, 2);
        x.due("stand(0)", 2);
        lampIs(told("l1,1;b9,0;b9,0;w1;").does("light(1, 1)"), 0, 1, 9, 1);
    }

    private static void keptOnesStayKept() {
        Run x = told("l1,1;b9,0;b9,0;w1;").does("keepIt(0, 1)");
        lampIs(x, 0, 60, 9, 0);
        lampIs(x, 1, 60, 9, 2);
    }

    private static void ofTheseThatOfFewest() {
        // two lamps at 0 and 1, or one at 2 itself: the fewer are told, though the others are less by number
        lampIs(told("l9,3;b9,3;b9,9;b9,0;b27,0;b18,1;p4;"), 2, 3, 9, 4);
        lampIs(told("l9,8;b9,0;b9,0;b9,0;r0;"), 2, 1, 9, 0);
    }

    private static void thenTheLeast() {
        Run x = told("l1,3;b50,9;b10,0;b10,0;r2;");
        lampIs(x, 1, 1, 10, 1);
        lampIs(x.does("change(0, 2)", "move(0, 0)"), 1, 1, 10, 1);
        lampIs(told("l1,3;b10,0;b10,0;b50,9;r0;"), 1, 1, 10, 2);
    }

    private static void nightsAre1To60() {
        lampIs(told("l1,0;b99,0;w0;"), 0, 1, 98, 0);
        lampIs(told("l1,0;b99,0;w0;"), 0, 60, 39, 0);
        used().tells("lamp(0, 0, 0)", BAD).tells("lamp(0, 61, 0)", BAD).tells("lamp(0, -1, 1)", BAD);
        used().tells("lamp(0, MOST, 0)", BAD).tells("lamp(0, LEAST, 0)", BAD);
    }

    private static void whatIs0Or1() {
        used().tells("lamp(0, 1, -1)", BAD).tells("lamp(0, 1, 2)", BAD);
        used().tells("lamp(0, 1, MOST)", BAD).tells("lamp(0, 1, LEAST)", BAD);
    }

    private static void booksAreThoseThereAre() {
        used().tells("lamp(-1, 1, 0)", BAD).tells("lamp(3, 1, 0)", BAD).tells("lamp(MOST, 1, 0)", BAD);
        used().tells("lamp(LEAST, 1, 0)", BAD).tells("lamp(2, 1, 0)", 3);
        run().tells("lamp(0, 1, 0)", BAD);
        told("l1,0;b1,0;b1,0;b1,0;b1,0;b1,0;b7,0;w0;").tells("lamp(5, 1, 0)", 7).tells("lamp(6, 1, 0)", BAD);
    }
}
