/** Promise 10: where a fish goes in a night, as section 2 of the terms says. */
public final class Promise10WhereFishGo extends Promise {

    public static void main(String[] args) {
        aReaderLikesByPaste();
        byATenthOfPages();
        lessThePlacesItIsAway();
        thatMayBeBelow0();
        litOnesItDoesNotLike();
        keptOnesItDoesNotLike();
        thoseOfNoPagesItDoesNotLike();
        itGoesOnePlace();
        ofSeveralTheLeastPlace();
        itStaysIfItIsThere();
        itStaysIfItLikesNone();
        forAPoetPasteCountsTwice();
        aCriticGoesAsAReader();
        aCriticRunsFromLight();
        beyondTheShelfIsItsOtherEnd();
        aCriticRunsOnlyFromLight();
        oneThatWandersGoesUp();
        aScholarStaysOrGoesUp();
        end();
    }

    private static Run goes(String text, int place) {
        return told(text).does("nights(1)").due("fish(0, 0)", place);
    }

    private static void aReaderLikesByPaste() {
        goes("l1,0;b9,1;b0,0;b9,2;r1;", 2);
        goes("l1,0;b9,2;b0,0;b9,1;r1;", 0);
        goes("l1,0;b9,9;b0,0;b99,0;r1;", 0);
        goes("l1,0;b9,8;b0,0;b99,0;r1;", 2);
    }

    private static void byATenthOfPages() {
        goes("l1,0;b10,5;b0,9;b19,5;r1;", 0);
        goes("l1,0;b10,5;b0,9;b20,5;r1;", 2);
        goes("l1,0;b9,5;b0,9;b10,5;r1;", 2);
        goes("l1,0;b1,5;b0,9;b9,5;r1;", 0);
        goes("l1,0;b89,0;b0,9;b90,0;r1;", 2);
        goes("l1,0;b90,0;b0,9;b99,0;r1;", 0);
    }

    private static void lessThePlacesItIsAway() {
        goes("l1,0;b50,0;b50,0;b50,2;r0;", 0);
        goes("l1,0;b50,0;b50,0;b50,3;r0;", 1);
        goes("l1,0;b50,2;b50,0;b50,0;r2;", 1);
        goes("l1,0;b50,1;b50,0;b50,0;r2;", 2);
        goes("l1,0;b9,0;b0,0;b0,0;b0,0;b0,0;b9,5;r0;", 0);
        goes("l1,0;b9,0;b0,0;b0,0;b0,0;b0,0;b9,6;r0;", 1);
    }

    private static void thatMayBeBelow0() {
        goes("l1,0;b5,0;b0,0;b0,0;b0,0;b0,0;b0,0;r5;", 4).due("fish(0, 2)", 0);
        goes("l1,0;b0,0;b0,0;b0,0;b0,0;b0,0;b5,0;p0;", 1).due("fish(0, 2)", 5);
        goes("l1,0;b1,0;b0,9;b0,9;b0,9;b1,0;b0,9;c3;", 4);
    }

    private static void litOnesItDoesNotLike() {
        Run x = told("l1,1;b9,1;b0,0;b9,9;r1;").does("light(2, 1)").due("fish(0, 2)", 0).does("nights(1)");
        x.due("fish(0, 0)", 0).does("light(2, 0)").due("fish(0, 2)", 2);
    }

    private static void keptOnesItDoesNotLike() {
        Run x = told("l1,1;b9,1;b0,0;b9,9;p1;").does("keepIt(2, 1)").due("fish(0, 2)", 0).does("nights(1)");
        x.due("fish(0, 0)", 0).does("keepIt(2, 0)").due("fish(0, 2)", 2);
    }

    private static void thoseOfNoPagesItDoesNotLike() {
        goes("l1,0;b1,0;b0,0;b0,9;r1;", 0);
        goes("l1,0;b1,0;b0,0;b1,9;r1;", 2);
        told("l9,0;b9,9;b9,0;r0;").does("nights(1)").due("fish(0, 0)", 0).does("nights(1)").due("fish(0, 0)", 1);
    }

    private static void itGoesOnePlace() {
        Run x = told("l1,0;b0,0;b0,0;b0,0;b0,0;b0,0;b9,0;r0;");
        for (int place = 1; place < 6; place++) {
            x.does("nights(1)").due("fish(0, 0)", place).due("fish(0, 1)", place == 5 ? 1 : 0);
        }
        x = told("l1,0;b9,0;b0,0;b0,0;b0,0;b0,0;b0,0;p5;");
        for (int place = 4; place >= 0; place--) {
            x.does("nights(1)").due("fish(0, 0)", place);
        }
    }

    private static void ofSeveralTheLeastPlace() {
        goes("l1,0;b10,5;b0,9;b10,5;r1;", 0);
        told("l1,0;b10,5;b0,9;b10,5;r1;").does("change(0, 2)", "nights(1)").due("fish(0, 0)", 0).due("book(2, 0)", 9);
        goes("l1,0;b9,3;b9,2;b9,0;r1;", 0);
        goes("l1,0;b9,0;b9,2;b9,3;r1;", 1);
        goes("l1,0;b9,5;b9,0;b9,0;b9,5;r1;", 0);
        goes("l1,0;b9,5;b9,0;b9,0;b9,5;r2;", 3);
        goes("l1,0;b9,5;b9,0;b9,0;b9,6;r1;", 0);
        goes("l1,0;b9,5;b9,0;b9,0;b9,7;r1;", 2);
    }

    private static void itStaysIfItIsThere() {
        goes("l1,0;b9,0;b9,5;b9,0;r1;", 1).due("fish(0, 2)", 1).due("book(1, 0)", 8);
        goes("l1,0;b9,0;r0;", 0);
        goes("l1,0;b0,0;b0,0;b0,0;b0,0;b0,0;b9,0;p5;", 5);
    }

    private static void itStaysIfItLikesNone() {
        goes("l1,0;b0,9;b0,9;b0,9;r1;", 1).due("fish(0, 2)", NONE);
        goes("l1,0;b0,9;b0,9;b0,9;p2;", 2).due("fish(0, 2)", NONE);
        goes("l1,0;b0,9;b0,9;b0,9;c0;", 0).due("fish(0, 2)", NONE);
        Run x = told("l1,1;b9,9;b9,9;b0,9;r1;p2;c2;").does("light(0, 1)", "keepIt(1, 1)", "nights(1)");
        x.due("fish(0, 0)", 1).due("fish(1, 0)", 2).due("fish(2, 0)", 2).due("stand(3)", 18);
    }

    private static void forAPoetPasteCountsTwice() {
        goes("l1,0;b9,3;b0,0;b50,0;r1;", 2);
        goes("l1,0;b9,3;b0,0;b50,0;p1;", 0);
        goes("l1,0;b9,2;b0,0;b50,0;p1;", 2);
        goes("l1,0;b9,9;b0,0;b99,5;p1;", 2);
        goes("l1,0;b9,9;b0,0;b99,4;p1;", 0);
        goes("l1,0;b9,3;b9,0;p1;", 0);
        goes("l1,0;b9,0;b9,0;b9,1;p0;", 0);
    }

    private static void aCriticGoesAsAReader() {
        goes("l1,0;b9,3;b0,0;b50,0;c1;", 2);
        goes("l1,0;b9,4;b0,0;b49,0;c1;", 0);
        goes("l1,0;b9,0;b9,0;b9,5;c0;", 1);
    }

    private static void aCriticRunsFromLight() {
        Run x = told("l1,1;b9,9;b9,0;b9,0;b9,0;c0;").does("light(0, 1)").tells("fish(0, 2)", 1).does("nights(1)");
        x.due("fish(0, 0)", 2).due("book(2, 0)", 8).due("fish(0, 1)", 1).due("fish(0, 2)", 2);
        x.does("nights(1)").due("fish(0, 0)", 2);
        told("l1,2;b9,9;b9,0;b9,0;c0;").does("light(0, 1)", "light(2, 1)", "nights(1)").due("fish(0, 0)", 2)
                .due("stand(3)", 27);
    }

    private static void beyondTheShelfIsItsOtherEnd() {
        String text = "l1,1;";
        for (int books = 1; books <= 6; books++) {
            text += "b9,0;";
            for (int place = 0; place < books; place++) {
                Run x = told(text + "c" + place + ";").does("light(" + place + ", 1)", "nights(1)");
                x.due("fish(0, 0)", (place + 2) % books);
            }
        }
    }

    private static void aCriticRunsOnlyFromLight() {
        Run x = told("l1,1;b9,0;b9,0;b9,9;c2;").does("keepIt(2, 1)", "nights(1)").due("fish(0, 0)", 1);
        x = told("l1,1;b9,0;b9,0;b9,9;c2;").does("light(2, 1)", "keepIt(2, 1)", "nights(1)").due("fish(0, 0)", 1);
        x.due("book(1, 0)", 8);
        told("l1,1;b9,0;b9,0;b9,0;b0,0;c2;").does("light(2, 1)", "keepIt(2, 1)", "nights(1)").due("fish(0, 0)", 0);
        told("l1,1;b9,0;b9,0;b0,0;c2;").does("nights(1)").due("fish(0, 0)", 1);
        told("l1,1;b9,0;b9,0;b0,0;c2;").does("light(2, 1)", "nights(1)").due("fish(0, 0)", 1);
        told("l1,1;b9,0;b9,9;c0;").does("light(1, 1)", "nights(1)").due("fish(0, 0)", 0);
        told("l1,1;b9,0;b9,0;b9,0;b9,0;r0;p1;").does("light(0, 1)", "nights(1)").due("fish(0, 0)", 1);
    }

    private static void oneThatWandersGoesUp() {
        String text = "l1,0;";
        for (int books = 1; books <= 6; books++) {
            text += "b9,0;";
            for (int place = 0; place < books; place++) {
                goes(text + "w" + place + ";", (place + 1) % books).due("fish(0, 1)", 1).due("fish(0, 2)", NONE);
            }
        }
        goes("l1,0;b9,9;b0,0;w0;", 1).due("fish(0, 1)", 0);
        told("l1,1;b9,0;b9,0;b9,0;w0;").does("light(1, 1)", "keepIt(0, 1)", "nights(1)").due("fish(0, 0)", 1);
    }

    private static void aScholarStaysOrGoesUp() {
        goes("l1,0;b9,9;b9,0;s1;", 1).due("fish(0, 2)", NONE).due("book(1, 0)", 8);
        String text = "l1,1;";
        for (int books = 1; books <= 6; books++) {
            text += "b9,0;";
            for (int place = 0; place < books; place++) {
                String fish = text + "s" + place + ";";
                int up = (place + 1) % books;
                goes(fish, place);
                told(fish).does("light(" + place + ", 1)", "nights(1)").due("fish(0, 0)", up);
                told(fish).does("keepIt(" + place + ", 1)", "nights(1)").due("fish(0, 0)", up);
            }
        }
        goes("l1,0;b9,0;b0,0;s1;", 0).due("fish(0, 1)", 1);
        goes("l1,0;b0,0;b0,9;b9,9;s0;", 1).due("fish(0, 1)", 0);
        told("l2,0;b3,0;b9,0;s0;").due("nights(1)", 10).due("nights(1)", 9).due("fish(0, 0)", 0).due("nights(1)", 7)
                .due("fish(0, 0)", 1);
    }
}
