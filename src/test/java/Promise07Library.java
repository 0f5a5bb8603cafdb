/** Promise 7: library, with what section 1 of the terms says of texts and of the places of faults. */
public final class Promise07Library extends Promise {
    private static final String LEAST = "l1,0;b0,0;r0;";

    public static void main(String[] args) {
        tellsHowManyFishThereAre();
        hungerIs1To9();
        lampsAre0To8();
        pagesAre0To99();
        pasteIs0To9();
        booksAre1To6();
        fishAre1To5();
        aFishIsAtAPlaceThatThereIs();
        sortsAreTold();
        numbersHaveTwoFiguresAtMost();
        aRunOfThreeFiguresIsNoToken();
        otherBytesAreNoTokens();
        aTokenThatCannotStandThere();
        theEndIsATokenToo();
        theFirstFaultIsTold();
        theTapeIsEmptyThen();
        aFaultLeavesAllButTheTape();
        aFaultLeavesAllCallsAsTheyWere();
        booksStandInPlacesOfTheirNumbers();
        standsInPlaceOfTheOneBefore();
        nothingIsLeftOfABiggerOne();
        imagesAndRowsStay();
        end();
    }

    private static void faulty(String text, int place, int number) {
        run().isFaulty(text, place, number).due("count(1)", 0);
    }

    private static void tellsHowManyFishThereAre() {
        String text = "l1,0;b0,0;";
        for (int fish = 1; fish <= 5; fish++) {
            text += "r0;";
            run().feed(text).due("library()", fish).due("count(2)", fish).due("fault()", 0);
        }
    }

    private static void hungerIs1To9() {
        told("l1,0;b0,0;r0;").due("stand(4)", 1);
        told("l9,0;b0,0;r0;").due("stand(4)", 9);
        faulty("l0,0;b0,0;r0;", 1, 2);
        faulty("l10,0;b0,0;r0;", 1, 2);
        faulty("l99,0;b0,0;r0;", 1, 2);
    }

    private static void lampsAre0To8() {
        told("l1,0;b0,0;r0;").due("stand(5)", 0);
        told("l1,8;b0,0;r0;").due("stand(5)", 8);
        faulty("l1,9;b0,0;r0;", 3, 2);
        faulty("l1,10;b0,0;r0;", 3, 2);
    }

    private static void pagesAre0To99() {
        told("l1,0;b0,0;r0;").due("book(0, 0)", 0);
        told("l1,0;b99,0;r0;").due("book(0, 0)", 99);
        faulty("l1,0;b100,0;r0;", 6, 1);
        told("l1,0;b0,0;b0,0;b0,0;b0,0;b0,0;b99,0;r0;").due("book(5, 0)", 99);
    }

    private static void pasteIs0To9() {
        told("l1,0;b0,0;r0;").due("book(0, 1)", 0);
        told("l1,0;b0,9;r0;").due("book(0, 1)", 9);
        faulty("l1,0;b0,10;r0;", 8, 2);
        faulty("l1,0;b0,99;r0;", 8, 2);
        faulty("l1,0;b0,0;b0,10;r0;", 13, 2);
    }

    private static void booksAre1To6() {
        faulty("l1,0;r0;", 5, 1);
        faulty("l1,0;", 5, 1);
        String text = "l1,0;";
        for (int books = 1; books <= 6; books++) {
            text += "b0,0;";
            told(text + "r0;").due("count(1)", books).tells("book(" + books + ", 0)", BAD);
        }
        faulty(text + "b0,0;r0;", 35, 3);
        faulty(text + "b", 35, 3);
        faulty(text + "b100,0;", 35, 3);
    }

    private static void fishAre1To5() {
        faulty("l1,0;b0,0;", 10, 1);
        faulty("l1,0;b0,0;;", 10, 1);
        String text = LEAST + "p0;c0;w0;s0;";
        told(text).due("count(2)", 5).tells("fish(5, 0)", BAD);
        for (String sort : "r p c w s".split(" ")) {
            faulty(text + sort + "0;", 25, 3);
            faulty(text + sort, 25, 3);
            faulty(text + sort + "100;", 25, 3);
        }
    }

    private static void aFishIsAtAPlaceThatThereIs() {
        String text = "l1,0;";
        for (int books = 1; books <= 6; books++) {
            text += "b0,0;";
            told(text + "r0;w" + (books - 1) + ";").due("fish(0, 0)", 0).due("fish(1, 0)", books - 1);
            faulty(text + "r" + books + ";", 5 * books + 6, 2);
            faulty(text + "r0;s" + books + ";", 5 * books + 9, 2);
            faulty(text + "r99;", 5 * books + 6, 2);
        }
    }

    private static void sortsAreTold() {
        Run x = told("l1,0;b0,0;r0;p0;c0;w0;s0;");
        for (int f = 0; f < 5; f++) {
            x.due("kind(" + f + ")", f + 1);
        }
        for (char sort = 'a'; sort <= 'z'; sort++) {
            if ("rpcws".indexOf(sort) < 0 && sort != 'b') {
                faulty("l1,0;b0,0;" + sort + "0;", 10, 1);
            }
            if ("rpcws".indexOf(sort) < 0) {
                faulty(LEAST + sort + "0;", 13, 1);
            }
        }
    }

    private static void numbersHaveTwoFiguresAtMost() {
        Run x = told("l09,08;b00,00;b07,09;b99,9;r00;w02;");
        x.due("stand(4)", 9).due("stand(5)", 8).due("book(0, 0)", 0).due("book(1, 0)", 7).due("book(1, 1)", 9);
        x.due("book(2, 0)", 99).due("fish(0, 0)", 0).due("fish(1, 0)", 2);
        faulty("l00,0;", 1, 2);
        faulty("l1,09;", 3, 2);
    }

    private static void aRunOfThreeFiguresIsNoToken() {
        faulty("l001,0;b0,0;r0;", 1, 1);
        faulty("l1,000;b0,0;r0;", 3, 1);
        faulty("l1,0;b000,0;r0;", 6, 1);
        faulty("l1,0;b0,000;r0;", 8, 1);
        faulty("l1,0;b0,0;r000;", 11, 1);
        faulty("l1,0;b0,0;r0;w123;", 14, 1);
        faulty("l12345678901,0;", 1, 1);
        faulty("l4294967297,0;b0,0;r0;", 1, 1);
        faulty("l" + "9".repeat(119), 1, 1);
        faulty("1".repeat(120), 0, 1);
        faulty("111", 0, 1);
        faulty("l1111", 1, 1);
    }

    private static void otherBytesAreNoTokens() {
        for (int p = 0; p <= LEAST.length(); p++) {
            for (int other : new int[] {0, 1, ' ', '+', '-', '.', '/', ':', '<', '@', 'A', 'Z', '`', '{', 127, 255}) {
                String text = LEAST.substring(0, p) + (char) other + LEAST.substring(Math.min(p + 1, LEAST.length()));
                faulty(text, p, 1);
            }
        }
    }

    private static void aTokenThatCannotStandThere() {
        for (int p = 0; p < LEAST.length(); p++) {
            for (char other : "a,;".toCharArray()) {
                if (other != LEAST.charAt(p)) {
                    faulty(LEAST.substring(0, p) + other + LEAST.substring(p + 1), p, 1);
                }
            }
        }
        faulty("1l,0;", 0, 1);
        faulty("bl1,0;", 0, 1);
        faulty("ll1,0;", 1, 1);
        faulty("l1 ,0;", 2, 1);
        faulty("l1;0;", 2, 1);
        faulty("l1,0,", 4, 1);
        faulty("l1,0;1", 5, 1);
        faulty("l1,0;;", 5, 1);
        faulty("l1,0;bb0,0;", 6, 1);
        faulty("l1,0;b0,0;0", 10, 1);
        faulty(LEAST + "b0,0;", 13, 1);
        faulty(LEAST + "l1,0;", 13, 1);
        faulty(LEAST + ";", 13, 1);
        faulty(LEAST + ",", 13, 1);
        faulty(LEAST + "7", 13, 1);
        faulty(LEAST + "w0;b0,0;", 16, 1);
    }

    private static void theEndIsATokenToo() {
        for (int n = 0; n < LEAST.length(); n++) {
            faulty(LEAST.substring(0, n), n, 1);
        }
        faulty("l10", 1, 2);
        faulty("l99,8", 1, 2);
        faulty("l09", 3, 1);
        faulty(LEAST + "w", 14, 1);
        faulty(LEAST + "w0", 15, 1);
    }

    private static void theFirstFaultIsTold() {
        faulty("l0,9;b100,10;x9;", 1, 2);
        faulty("l1,9;b100,10;x9;", 3, 2);
        faulty("l1,8;b100,10;x9;", 6, 1);
        faulty("l1,8;b10,10;x9;", 9, 2);
        faulty("l1,8;b10,1;x9;", 11, 1);
        faulty("l1,8;b10,1;r9;x", 12, 2);
        faulty("l1,8;b10,1;r0;x", 14, 1);
    }

    private static void theTapeIsEmptyThen() {
        told(LEAST).tells("count(7)", 0).due("library()", -1000100).due("feed(108)", 1);
        run().feed("l1,0").due("library()", -1000104).tells("count(7)", 0).feed(LEAST).due("library()", 1);
    }

    private static void aFaultLeavesAllButTheTape() {
        Run x = used().due("library()", -1000106);
        x.isFaulty("", 0, 1).isFaulty("l5,3;b9,9;b", 11, 1).isFaulty("l0", 1, 2)
                .isFaulty("l5,3;b9,9;b8,8;p1;s2;", 19, 2);
        x.isFaulty("l9,8;b9,9;b9,9;b9,9;b9,9;b9,9;b9,9;b", 35, 3);
        run().told(LEAST).due("library()", -1000100).due("count(1)", 1).due("count(2)", 1);
    }

    private static void aFaultLeavesAllCallsAsTheyWere() {
        Run x = told("l3,2;b30,5;b25,8;b41,2;r0;p1;c2;w1;").tell(0, 24, 21).does("nights(2)", "image(0)");
        for (String text : new String[] {"", "l1,0;", "l9,0;b1,1;", "l9,8;b1,1;b2,2;s0;w1;;",
            "l9,8;b9,9;b9,9;b9,9;b9,9;b9,9;b9,9;s5;s5;s5;s5;s5;s"}) {
            for (String call : EachCall.ON_THREE_BOOKS) {
                long due = x.twin().answers(call);
                x.twin().feed(text).does("library()").due(call, due);
            }
        }
    }

    private static void booksStandInPlacesOfTheirNumbers() {
        Run x = told("l1,0;b1,0;b2,0;b3,0;b4,0;b5,0;b6,0;r0;");
        for (int b = 0; b < 6; b++) {
            x.due("book(" + b + ", 0)", b + 1).due("book(" + b + ", 2)", b);
        }
        x.does("change(0, 5)", "change(1, 2)").told("l1,0;b1,0;b2,0;b3,0;b4,0;b5,0;b6,0;w0;");
        for (int b = 0; b < 6; b++) {
            x.due("book(" + b + ", 2)", b).does("move(0, " + b + ")").due("fish(0, 3)", b);
        }
    }

    private static void standsInPlaceOfTheOneBefore() {
        Run x = used().due("library()", -1000106).told("l3,2;b10,1;b20,2;b30,3;s2;c0;w1;");
        x.due("count(1)", 3).due("count(2)", 3).due("count(3)", 0).due("count(4)", 60).due("count(5)", 0);
        x.due("stand(0)", 0).due("stand(1)", 0).due("stand(2)", 0).due("stand(4)", 3).due("stand(5)", 2);
        for (int b = 0; b < 3; b++) {
            x.due("book(" + b + ", 0)", 10 * b + 10).due("book(" + b + ", 1)", b + 1).due("book(" + b + ", 2)", b);
        }
        x.due("fish(0, 0)", 2).due("fish(1, 0)", 0).due("fish(2, 0)", 1).due("fish(0, 1)", 0).due("fish(1, 1)", 0);
        x.due("kind(0)", 5).due("kind(1)", 3).due("kind(2)", 4).due("fault()", 1);
        x.due("count(6)", 0).tells("undo()", STATE);
        told("l1,0;b1,1;b2,2;b3,3;r0;p1;c2;").told("l2,1;b4,4;w0;").tells("book(1, 0)", BAD).tells("fish(1, 0)", BAD);
    }

    private static void nothingIsLeftOfABiggerOne() {
        Run x = told("l9,8;b99,9;b99,9;b99,9;b99,9;b99,9;b99,9;r5;p4;c3;w2;s1;").does("nights(1)", "light(5, 1)");
        x.does("keepIt(4, 1)", "catchIt(4)", "change(0, 5)", "image(0)").told("l1,0;b0,0;b2,0;r1;").tell(0, 1);
        x.tells("stand(3)", 2).tells("count(4)", 2).tells("count(5)", 0).tells("when(2)", BAD).tells("when(1)", 2);
        x.tells("first(0)", 1).tells("first(1)", 2).tells("order(3, 1, -1)", 1).tells("order(4, 1, -1)", BAD);
        x.tells("drawn(0, 1, 0)", 2).tells("drawn(0, 1, 1)", 1).tells("drawn(2, 1, 1)", 2).tells("grams(0, 9)", 0);
        x.tells("caught(1, 1, 1)", 1).tells("lamp(1, 1, 0)", 1).tells("dark(1, 2, 5, 0)", 0)
                .tells("dark(1, 2, 5, 1)", 1);
        x.tells("who(0, 1, 1, 0, 0, 1)", 3).tells("book(1, 5)", 1).due("nights(1)", 1).due("grams(0, 9)", 9);
        x.due("restore(0)", 1).due("stand(3)", 549).told("l1,0;b0,0;b2,0;r1;").due("drawn(0, 1, 1)", 1);
    }

    private static void imagesAndRowsStay() {
        Run x = used().due("library()", -1000106).told("l3,2;b10,1;s0;");
        x.due("count(0)", 3).itemsAre(0, 9, 0, 9).itemsAre(1, 0, 0);
        x.tells("restore(1)", STATE).due("trace(0)", 11).due("status()", 3).due("restore(0)", 1);
        x.due("stand(3)", 76).due("count(3)", 1).due("stand(4)", 2).due("stand(5)", 1).due("kind(1)", 4);
        x.due("stand(0)", 0).due("stand(1)", 0).due("stand(2)", 0).due("count(5)", 6);
    }
}
