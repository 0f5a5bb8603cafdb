/** Promises 1 to 8, 39 and 40: rows, the tape, what is read from it, counts, status. */
public final class PromisesOfRowsAndTexts {
    private static final String SMALL = "l1,0;b0,0;r0;";

    public static void main(String[] args) {
        aNewObjectHasNoLibrary();
        rowsAreMade();
        itemsAreSet();
        itemsAreCopied();
        rowsAreDropped();
        bytesAreFed();
        librariesAreRead();
        faultsHavePlaces();
        faultsOfNumbers();
        faultsOfRoom();
        aFaultLeavesAllButTheTape();
        aLibraryStandsInPlaceOfTheOneBefore();
        countsAreTold();
        statusIsTold();
        statusOfAllCallsWithRows();
        Due.end();
    }

    private static void aNewObjectHasNoLibrary() {
        FishReaders x = new FishReaders();
        for (int what = 0; what < 8; what++) {
            Due.due("new: count(" + what + ")", x.count(what), 0);
        }
        Due.due("new: stand(0)", x.stand(0), Due.STATE);
        Due.due("new: stand(9)", x.stand(9), Due.STATE);
        Due.due("new: nights(0)", x.nights(0), Due.STATE);
        Due.due("new: first(5)", x.first(5), Due.STATE);
        Due.due("new: order(1, 0, 7)", x.order(1, 0, 7), Due.STATE);
        Due.due("new: drawn(-1, 0, 2)", x.drawn(-1, 0, 2), Due.STATE);
        Due.due("new: book(0, 0)", x.book(0, 0), Due.BAD);
        Due.due("new: fish(0, 0)", x.fish(0, 0), Due.BAD);
        Due.due("new: undo()", x.undo(), Due.STATE);
        Due.due("new: fault()", x.fault(), 0);
        Due.due("new: status()", x.status(), 0);
        Due.due("new: trace(0)", x.trace(0), Due.NONE);
    }

    private static void rowsAreMade() {
        FishReaders x = new FishReaders();
        Due.due("row(0, 0, 40)", x.row(0, 0, 40), 40);
        Due.due("row(7, 2, 0)", x.row(7, 2, 0), 0);
        Due.due("row(-1, 0, 1)", x.row(-1, 0, 1), Due.BAD);
        Due.due("row(8, 0, 1)", x.row(8, 0, 1), Due.BAD);
        Due.due("row(0, -1, 1)", x.row(0, -1, 1), Due.BAD);
        Due.due("row(0, 3, 1)", x.row(0, 3, 1), Due.BAD);
        Due.due("row(0, 0, 41)", x.row(0, 0, 41), Due.BAD);
        Due.due("row(8, 0, -1): BAD is ahead of SIZE", x.row(8, 0, -1), Due.BAD);
        Due.due("row(0, 0, -1)", x.row(0, 0, -1), Due.SIZE);
        Due.due("what was there stays", x.set(0, 39, 5), 5);
        Due.due("row(0, 1, 2), anew", x.row(0, 1, 2), 2);
        Due.due("two items now", x.set(0, 2, 5), Due.PLACE);
        tellAndMatch(x, "a new row is of zeros");
    }

    /** A row's items can be read only by what fits them: a book of no pages stays so. */
    private static void tellAndMatch(FishReaders x, String what) {
        Due.feed(x, "l1,0;b0,0;r0;");
        x.library();
        x.row(1, 2, 3);
        x.set(1, 1, 9);
        x.row(1, 2, 3);
        Due.due(what, x.hungers(0, 1, 0, 3), 1022);
    }

    private static void itemsAreSet() {
        FishReaders x = new FishReaders();
        x.row(0, 0, 2);
        x.row(1, 1, 2);
        x.row(2, 2, 2);
        Due.due("byte 127", x.set(0, 0, 127), 127);
        Due.due("byte 128", x.set(0, 0, 128), -128);
        Due.due("byte 257", x.set(0, 1, 257), 1);
        Due.due("byte -129", x.set(0, 1, -129), 127);
        Due.due("short 32768", x.set(1, 0, 32768), -32768);
        Due.due("short 65535", x.set(1, 1, 65535), -1);
        Due.due("int", x.set(2, 1, Integer.MIN_VALUE), Integer.MIN_VALUE);
        Due.due("set(8, ..)", x.set(8, 0, 0), Due.BAD);
        Due.due("set(-1, ..)", x.set(-1, 9, 0), Due.BAD);
        Due.due("set(3, ..) is missing", x.set(3, 99, 0), Due.NULL);
        Due.due("set(0, -1, ..)", x.set(0, -1, 0), Due.PLACE);
        Due.due("set(0, 2, ..)", x.set(0, 2, 0), Due.PLACE);
        Due.due("set(0, most, ..)", x.set(0, Integer.MAX_VALUE, 0), Due.PLACE);
    }

    private static void itemsAreCopied() {
        FishReaders x = Due.told("l3,0;b40,0;w0;");
        Due.tell(x, 0, 37, 34, 31, 28, 25);
        Due.due("all fits: hunger 3", x.hungers(0, 0, 0, 5), 8);
        Due.due("copied over itself, up", x.copy(0, 0, 0, 1, 4), 4);
        x.set(0, 0, 77);
        Due.due("items are as they were ahead", x.hungers(0, 0, 1, 4), 8);
        Due.due("copied over itself, down", x.copy(0, 1, 0, 0, 4), 4);
        Due.due("again as they were", x.hungers(0, 0, 0, 4), 8);
        x.row(1, 2, 6);
        Due.due("to another row", x.copy(0, 0, 1, 2, 4), 4);
        Due.due("there they are", x.hungers(0, 1, 2, 4), 8);
        Due.due("nothing, at the end", x.copy(0, 5, 1, 6, 0), 0);
        Due.due("copy(8, ..)", x.copy(8, 0, 0, 0, 1), Due.BAD);
        Due.due("copy(.., -1, ..)", x.copy(0, 0, -1, 0, 1), Due.BAD);
        Due.due("a is missing", x.copy(5, 0, 0, 0, 1), Due.NULL);
        Due.due("b is missing", x.copy(0, 0, 5, 0, 99), Due.NULL);
        x.row(2, 1, 6);
        Due.due("other lanes", x.copy(0, 0, 2, 0, 1), Due.STORE);
        Due.due("other lanes, ahead of PLACE", x.copy(0, -1, 2, 0, 1), Due.STORE);
        Due.due("i below 0", x.copy(0, -1, 1, 0, 1), Due.PLACE);
        Due.due("j below 0", x.copy(0, 0, 1, -1, 1), Due.PLACE);
        Due.due("n below 0", x.copy(0, 0, 1, 0, -1), Due.PLACE);
        Due.due("beyond the end of a", x.copy(0, 2, 1, 0, 4), Due.PLACE);
        Due.due("beyond the end of b", x.copy(0, 0, 1, 4, 3), Due.PLACE);
        Due.due("far beyond", x.copy(0, Integer.MAX_VALUE, 1, 0, Integer.MAX_VALUE), Due.PLACE);
        Due.due("nothing was changed by these", x.hungers(0, 1, 2, 4), 8);
    }

    private static void rowsAreDropped() {
        FishReaders x = new FishReaders();
        x.row(3, 1, 17);
        Due.due("drop(3)", x.drop(3), 17);
        Due.due("drop(3) again", x.drop(3), Due.NULL);
        Due.due("drop(8)", x.drop(8), Due.BAD);
        Due.due("drop(-1)", x.drop(-1), Due.BAD);
        Due.due("set(3, ..) behind it", x.set(3, 0, 0), Due.NULL);
    }

    private static void bytesAreFed() {
        FishReaders x = new FishReaders();
        Due.due("feed(0)", x.feed(0), 1);
        Due.due("feed(255)", x.feed(255), 2);
        Due.due("feed(256)", x.feed(256), Due.BAD);
        Due.due("feed(-1)", x.feed(-1), Due.BAD);
        for (int k = 3; k <= 120; k++) {
            Due.due("feed, byte " + k, x.feed('l'), k);
        }
        Due.due("feed, byte 121", x.feed('l'), Due.FULL);
        Due.due("BAD is ahead of FULL", x.feed(256), Due.BAD);
        Due.due("count(7)", x.count(7), 120);
        Due.due("library()", x.library(), -1000100);
        Due.due("the tape is empty", x.feed('l'), 1);
    }

    private static void librariesAreRead() {
        FishReaders x = Due.told("l09,8;b00,00;b99,9;b7,07;r0;p1;c2;w01;s00;");
        Due.due("stand(4)", x.stand(4), 9);
        Due.due("stand(5)", x.stand(5), 8);
        Due.due("count(1)", x.count(1), 3);
        Due.due("count(2)", x.count(2), 5);
        Due.due("book(1, 0)", x.book(1, 0), 99);
        Due.due("book(1, 1)", x.book(1, 1), 9);
        Due.due("book(2, 0)", x.book(2, 0), 7);
        Due.due("book(2, 2)", x.book(2, 2), 2);
        int[] places = {0, 1, 2, 1, 0};
        for (int f = 0; f < 5; f++) {
            Due.due("kind(" + f + ")", x.kind(f), f + 1);
            Due.due("fish(" + f + ", 0)", x.fish(f, 0), places[f]);
        }
    }

    private static void faultAt(String text, int place, int number) {
        FishReaders x = new FishReaders();
        Due.feed(x, text);
        Due.due("library() of '" + text + "'", x.library(), -1000100 - place);
        Due.due("fault() of '" + text + "'", x.fault(), number);
        Due.due("count(1) of '" + text + "'", x.count(1), 0);
    }

    private static void faultsHavePlaces() {
        faultAt("", 0, 1);
        faultAt("b", 0, 1);
        faultAt("L1,0;b0,0;r0;", 0, 1);
        faultAt(" l1,0;b0,0;r0;", 0, 1);
        faultAt("l", 1, 1);
        faultAt("l,", 1, 1);
        faultAt("l1", 2, 1);
        faultAt("l1;0;", 2, 1);
        faultAt("l1,", 3, 1);
        faultAt("l1,0,", 4, 1);
        faultAt("l1,0;", 5, 1);
        faultAt("l1,0;r0;", 5, 1);
        faultAt("l1,0;b", 6, 1);
        faultAt("l1,0;bb", 6, 1);
        faultAt("l1,0;b0;", 7, 1);
        faultAt("l1,0;b0,0;", 10, 1);
        faultAt("l1,0;b0,0;x", 10, 1);
        faultAt("l1,0;b0,0;r", 11, 1);
        faultAt("l1,0;b0,0;r0", 12, 1);
        faultAt("l1,0;b0,0;r0,", 12, 1);
        faultAt(SMALL + "b0,0;", 13, 1);
        faultAt(SMALL + (char) 200, 13, 1);
        faultAt(SMALL + ";", 13, 1);
        faultAt(SMALL + "l1,0;", 13, 1);
        faultAt(SMALL + "7", 13, 1);
    }

    private static void faultsOfNumbers() {
        faultAt("l0,9;", 1, 2);
        faultAt("l00,0;", 1, 2);
        faultAt("l10,0;", 1, 2);
        faultAt("l100,0;", 1, 1);
        faultAt("l001,0;", 1, 1);
        faultAt("l12345678901234567890,0;", 1, 1);
        faultAt("l1,9;", 3, 2);
        faultAt("l1,99;", 3, 2);
        faultAt("l1,000;", 3, 1);
        faultAt("l1,0;b100,0;", 6, 1);
        faultAt("l1,0;b9,10;", 8, 2);
        faultAt("l1,0;b9,100;", 8, 1);
        faultAt("l1,0;b0,0;b0,0;r2;", 16, 2);
        faultAt("l1,0;b0,0;b0,0;r1;s99;", 19, 2);
        faultAt("111", 0, 1);
    }

    private static void faultsOfRoom() {
        String books = "l1,0;b0,0;b0,0;b0,0;b0,0;b0,0;b0,0;";
        faultAt(books + "b0,0;", 35, 3);
        faultAt(books + "bx", 35, 3);
        faultAt(books + "r0;b", 38, 1);
        String fish = SMALL + "r0;p0;c0;w0;";
        faultAt(fish + "s0;", 25, 3);
        faultAt(fish + "s9;", 25, 3);
        faultAt(fish + "b", 25, 1);
        faultAt(fish + "x", 25, 1);
    }

    private static void aFaultLeavesAllButTheTape() {
        FishReaders x = Due.told("l2,1;b50,5;b40,4;r0;w1;");
        x.nights(2);
        x.light(0, 1);
        Due.feed(x, "l5,3;b9,9;b");
        Due.due("library()", x.library(), -1000111);
        Due.due("fault()", x.fault(), 1);
        Due.due("count(7)", x.count(7), 0);
        Due.due("count(3)", x.count(3), 2);
        Due.due("count(6)", x.count(6), 3);
        Due.due("stand(0)", x.stand(0), 1);
        Due.due("stand(4)", x.stand(4), 2);
        Due.feed(x, SMALL);
        Due.due("library() of a right one", x.library(), 1);
        Due.due("fault() stays the latest", x.fault(), 1);
        Due.feed(x, "l0");
        x.library();
        Due.due("fault() is the latest", x.fault(), 2);
    }

    private static void aLibraryStandsInPlaceOfTheOneBefore() {
        FishReaders x = Due.told("l2,2;b50,5;b40,4;b30,3;r0;w1;");
        x.row(4, 0, 3);
        x.image(1);
        x.nights(5);
        x.light(1, 1);
        x.keepIt(2, 1);
        x.catchIt(0);
        x.change(0, 2);
        Due.feed(x, "l3,2;b10,1;b20,2;b30,3;s2;c0;");
        Due.due("library()", x.library(), 2);
        Due.due("NIGHT", x.count(3), 0);
        Due.due("DUST of all", x.count(5), 0);
        Due.due("ACTS", x.count(6), 0);
        Due.due("undo()", x.undo(), Due.STATE);
        Due.due("LIT", x.stand(0), 0);
        Due.due("KEPT", x.stand(1), 0);
        Due.due("CAUGHT", x.stand(2), 0);
        Due.due("PLACE of 0", x.book(0, 2), 0);
        Due.due("PLACE of FISH 0", x.fish(0, 0), 2);
        Due.due("ROWS stay", x.count(0), 1);
        Due.due("IMAGES stay", x.restore(1), 1);
        Due.due("as it was", x.stand(3), 120);
        Due.due("HUNGER as it was", x.stand(4), 2);
    }

    private static void countsAreTold() {
        FishReaders x = Due.told("l4,2;b30,5;b60,1;r0;w1;s1;");
        x.row(2, 0, 0);
        x.row(6, 2, 4);
        x.feed('l');
        x.nights(1);
        x.catchIt(1);
        int[] due = {2, 2, 3, 1, 78, 12, 2, 1, Due.BAD};
        for (int what = 0; what < due.length; what++) {
            Due.due("count(" + what + ")", x.count(what), due[what]);
        }
        Due.due("count(-1)", x.count(-1), Due.BAD);
    }

    private static void statusIsTold() {
        FishReaders x = Due.told("l4,2;b30,5;b60,1;r0;w1;");
        Due.due("none", x.status(), 0);
        x.row(0, 0, -1);
        Due.due("SIZE", x.status(), 4);
        x.row(9, 0, -1);
        Due.due("BAD leaves it", x.status(), 4);
        x.nights(1);
        x.book(0, 0);
        Due.due("calls with no ROW leave it", x.status(), 4);
        x.row(0, 0, 1);
        Due.due("nothing was found", x.status(), 0);
        x.set(0, 1, 1);
        Due.due("PLACE", x.status(), 2);
        x.as(0, 1);
        Due.due("as() found nothing", x.status(), 0);
        x.as(0, 2);
        Due.due("KIND", x.status(), 3);
        x.as(0, 6);
        Due.due("BAD as() leaves it", x.status(), 3);
        x.drop(1);
        Due.due("NULL", x.status(), 1);
        x.drop(0);
        Due.due("dropped", x.status(), 0);
        x.row(0, 0, 1);
        x.row(1, 1, 1);
        x.copy(0, 0, 1, 0, 1);
        Due.due("STORE", x.status(), 5);
        x.set(0, 0, 1);
        Due.due("set", x.status(), 0);
    }

    private static void statusOfAllCallsWithRows() {
        FishReaders x = Due.told("l4,2;b30,5;b60,1;r0;w1;");
        x.row(0, 0, 2);
        x.who(0, 0, 0, 5, 0, 1);
        Due.due("who: NULL", x.status(), 1);
        x.who(0, 0, 0, 0, 0, 1);
        Due.due("who", x.status(), 0);
        x.paste(0, 0, 0, 1, 2);
        Due.due("paste: PLACE", x.status(), 2);
        x.catchIt(0);
        x.who(0, 0, 0, 5, 0, 1);
        Due.due("who: STATE leaves it", x.status(), 2);
        x.paste(0, 0, 0, 0, 2);
        Due.due("paste", x.status(), 0);
        x.hungers(0, 5, 0, 2);
        Due.due("hungers: NULL", x.status(), 1);
        x.hungers(0, 5, 0, 13);
        Due.due("hungers: BAD leaves it", x.status(), 1);
        x.hungers(0, 0, 0, 2);
        Due.due("hungers", x.status(), 0);
    }
}
