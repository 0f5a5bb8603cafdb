/** Promises 19 to 34: what would be, what is best, what fits, how likely, images. */
public final class PromisesOfTheForetold {
    private static final String TWO_WANDERERS = "l4,2;b30,5;b60,1;w0;w1;";

    public static void main(String[] args) {
        booksAhead();
        fishLater();
        whenABookIsEmpty();
        theFirstEmptyBook();
        holes();
        theBestOrder();
        theFewestLamps();
        theFewestCaught();
        gramsAreShared();
        whoItWas();
        whoIsRefused();
        whichPaste();
        whichHunger();
        lampsGoOut();
        centuriesAreDrawn();
        imagesAreKept();
        nothingChangesByForetelling();
        Due.end();
    }

    private static void booksAhead() {
        FishReaders x = Due.told(TWO_WANDERERS);
        Due.due("now", x.ahead(0, 0, 0), 30);
        Due.due("behind 3", x.ahead(0, 3, 0), 18);
        Due.due("behind 60", x.ahead(0, 60, 0), 0);
        Due.due("PASTE behind 3", x.ahead(1, 3, 1), 1);
        Due.due("PASTE behind 4", x.ahead(1, 4, 1), 2);
        Due.due("PASTE behind 60", x.ahead(1, 60, 1), 9);
        x.nights(2);
        Due.due("NIGHTS go on from where they are", x.ahead(1, 2, 1), 2);
        Due.due("ahead(2, 0, 0)", x.ahead(2, 0, 0), Due.BAD);
        Due.due("ahead(-1, 0, 0)", x.ahead(-1, 0, 0), Due.BAD);
        Due.due("ahead(0, -1, 0)", x.ahead(0, -1, 0), Due.BAD);
        Due.due("ahead(0, 61, 0)", x.ahead(0, 61, 0), Due.BAD);
        Due.due("ahead(0, 0, 2)", x.ahead(0, 0, 2), Due.BAD);
        Due.due("ahead(0, 0, -1)", x.ahead(0, 0, -1), Due.BAD);
    }

    private static void fishLater() {
        FishReaders x = Due.told(TWO_WANDERERS);
        Due.due("PLACE now", x.later(1, 0, 0), 1);
        Due.due("PLACE behind 3", x.later(0, 3, 0), 1);
        Due.due("DUST behind 3", x.later(0, 3, 1), 12);
        Due.due("PLACE behind 60", x.later(0, 60, 0), 0);
        Due.due("later(2, 0, 0)", x.later(2, 0, 0), Due.BAD);
        Due.due("later(-1, 0, 0)", x.later(-1, 0, 0), Due.BAD);
        Due.due("later(0, -1, 0)", x.later(0, -1, 0), Due.BAD);
        Due.due("later(0, 61, 0)", x.later(0, 61, 0), Due.BAD);
        Due.due("later(0, 0, 2)", x.later(0, 0, 2), Due.BAD);
        x.nights(1);
        x.catchIt(0);
        Due.due("CAUGHT: PLACE", x.later(0, 5, 0), Due.NONE);
        Due.due("CAUGHT: DUST", x.later(0, 5, 1), 4);
    }

    private static void whenABookIsEmpty() {
        FishReaders x = Due.told(TWO_WANDERERS);
        Due.due("when(0)", x.when(0), 8);
        Due.due("when(1)", x.when(1), 15);
        Due.due("when(2)", x.when(2), Due.BAD);
        Due.due("when(-1)", x.when(-1), Due.BAD);
        x.light(0, 1);
        Due.due("LIT", x.when(0), Due.NONE);
        x.light(0, 0);
        x.keepIt(0, 1);
        Due.due("KEPT", x.when(0), Due.NONE);
        Due.due("60", Due.told("l1,0;b60,0;w0;").when(0), 60);
        Due.due("61", Due.told("l1,0;b61,0;w0;").when(0), Due.NONE);
        Due.due("no PAGES now", Due.told("l1,0;b0,0;w0;").when(0), 0);
    }

    private static void firstIs(String text, int which, int behind) {
        FishReaders x = Due.told(text);
        Due.due("first(0) of " + text, x.first(0), which);
        Due.due("first(1) of " + text, x.first(1), behind);
    }

    private static void theFirstEmptyBook() {
        firstIs(TWO_WANDERERS, 0, 8);
        firstIs("l5,0;b10,0;b10,0;w0;w1;", 0, 2);
        firstIs("l5,0;b11,0;b10,0;w0;w1;", 1, 2);
        firstIs("l5,0;b0,0;b10,0;w0;w1;", 1, 2);
        firstIs("l1,0;b0,0;b0,0;w0;w1;", Due.NONE, Due.NONE);
        firstIs("l1,0;b60,0;w0;", 0, 60);
        firstIs("l1,0;b61,0;w0;", Due.NONE, Due.NONE);
        FishReaders x = Due.told(TWO_WANDERERS);
        Due.due("first(2)", x.first(2), Due.BAD);
        Due.due("first(-1)", x.first(-1), Due.BAD);
    }

    private static void holes() {
        FishReaders x = Due.told("l4,2;b3,0;b0,0;b50,0;b50,0;w0;s2;");
        Due.due("hole(0, 0)", x.hole(0, 0), 0);
        Due.due("a BOOK of no PAGES", x.hole(0, 1), 0);
        Due.due("hole(0, 2)", x.hole(0, 2), 4);
        Due.due("hole(0, 3)", x.hole(0, 3), 12);
        Due.due("hole(0, 4)", x.hole(0, 4), 13);
        Due.due("hole(1, 60)", x.hole(1, 60), 12);
        x.light(3, 1);
        Due.due("LIT", x.hole(0, 4), 5);
        x.catchIt(0);
        Due.due("CAUGHT", x.hole(0, 60), 0);
        Due.due("hole(2, 0)", x.hole(2, 0), Due.BAD);
        Due.due("hole(-1, 0)", x.hole(-1, 0), Due.BAD);
        Due.due("hole(0, -1)", x.hole(0, -1), Due.BAD);
        Due.due("hole(0, 61)", x.hole(0, 61), Due.BAD);
        x.nights(3);
        Due.due("of what is to come alone", x.hole(1, 0), 0);
    }

    private static void orderIs(FishReaders x, int set, int n, int... due) {
        for (int p = -1; p < due.length - 1; p++) {
            Due.due("order(" + set + ", " + n + ", " + p + ")", x.order(set, n, p), due[p + 1]);
        }
    }

    private static void theBestOrder() {
        FishReaders x = Due.told("l9,2;b10,0;b20,0;b30,0;s1;");
        orderIs(x, 7, 1, 51, 0, 1, 2);
        orderIs(x, 2, 1, 20, 0, 2, 1);
        orderIs(x, 1, 1, 10, 0, 1, 2);
        orderIs(x, 0, 1, 0, 0, 1, 2);
        orderIs(x, 6, 1, 50, 1, 0, 2);
        x.change(0, 2);
        orderIs(x, 7, 1, 51, 0, 1, 2);
        x.light(2, 1);
        orderIs(x, 1, 1, 10, 0, 1, 2);
        orderIs(x, 3, 1, 21, 0, 1, 2);
        Due.due("order(8, 1, -1)", x.order(8, 1, -1), Due.BAD);
        Due.due("order(-1, 1, -1)", x.order(-1, 1, -1), Due.BAD);
        Due.due("order(7, 0, -1)", x.order(7, 0, -1), Due.BAD);
        Due.due("order(7, 13, -1)", x.order(7, 13, -1), Due.BAD);
        Due.due("order(7, 12, -2)", x.order(7, 12, -2), Due.BAD);
        Due.due("order(7, 12, 3)", x.order(7, 12, 3), Due.BAD);
        orderIs(Due.told("l1,0;b9,0;w0;"), 1, 12, 0, 0);
    }

    private static void lampIs(FishReaders x, int book, int n, int pages, int which) {
        Due.due("lamp(" + book + ", " + n + ", 0)", x.lamp(book, n, 0), pages);
        Due.due("lamp(" + book + ", " + n + ", 1)", x.lamp(book, n, 1), which);
    }

    private static void theFewestLamps() {
        FishReaders x = Due.told("l9,2;b10,0;b20,0;b30,0;s1;");
        lampIs(x, 0, 1, 10, 0);
        lampIs(x, 1, 1, 20, 2);
        x.light(0, 1);
        lampIs(x, 0, 1, 10, 0);
        lampIs(x, 1, 60, 20, 2);
        lampIs(Due.told("l9,0;b10,0;b20,0;b30,0;s1;"), 1, 1, 11, 0);
        lampIs(Due.told("l1,3;b50,9;b10,0;b10,0;r2;"), 1, 1, 10, 1);
        lampIs(Due.told("l1,3;b0,0;b0,0;r0;"), 1, 60, 0, 0);
        // two lamps at 0 and 1, or one at 2 itself: the fewer are told, though the others are less by number
        lampIs(Due.told("l9,3;b9,3;b9,9;b9,0;b27,0;b18,1;p4;"), 2, 3, 9, 4);
        Due.due("lamp(3, 1, 0)", x.lamp(3, 1, 0), Due.BAD);
        Due.due("lamp(-1, 1, 0)", x.lamp(-1, 1, 0), Due.BAD);
        Due.due("lamp(0, 0, 0)", x.lamp(0, 0, 0), Due.BAD);
        Due.due("lamp(0, 61, 0)", x.lamp(0, 61, 0), Due.BAD);
        Due.due("lamp(0, 1, 2)", x.lamp(0, 1, 2), Due.BAD);
        Due.due("lamp(0, 1, -1)", x.lamp(0, 1, -1), Due.BAD);
    }

    private static void caughtAre(FishReaders x, int book, int n, int many, int which) {
        Due.due("caught(" + book + ", " + n + ", 0)", x.caught(book, n, 0), many);
        Due.due("caught(" + book + ", " + n + ", 1)", x.caught(book, n, 1), which);
    }

    private static void theFewestCaught() {
        FishReaders x = Due.told("l1,1;b50,9;b10,0;b10,0;r2;w2;s1;");
        caughtAre(x, 0, 1, 1, 2);
        caughtAre(x, 1, 1, 2, 5);
        caughtAre(x, 2, 1, 0, 0);
        x.catchIt(0);
        caughtAre(x, 1, 1, 1, 4);
        x.keepIt(1, 1);
        caughtAre(x, 1, 60, 0, 0);
        caughtAre(Due.told("l1,0;b10,7;b20,6;b0,0;r1;r0;"), 0, 1, 1, 2);
        Due.due("caught(3, 1, 0)", x.caught(3, 1, 0), Due.BAD);
        Due.due("caught(-1, 1, 0)", x.caught(-1, 1, 0), Due.BAD);
        Due.due("caught(0, 0, 0)", x.caught(0, 0, 0), Due.BAD);
        Due.due("caught(0, 61, 0)", x.caught(0, 61, 0), Due.BAD);
        Due.due("caught(0, 1, 2)", x.caught(0, 1, 2), Due.BAD);
        // one scholar less leaves enough of book 1 for the reader to stay there: three ways, the least is told
        caughtAre(Due.told("l5,0;b0,0;b25,0;b30,0;s1;s1;r1;"), 2, 1, 1, 1);
    }

    private static void gramsAre(FishReaders x, int n, int... due) {
        for (int f = 0; f < due.length; f++) {
            Due.due("grams(" + f + ", " + n + ")", x.grams(f, n), due[f]);
        }
    }

    private static void gramsAreShared() {
        FishReaders x = Due.told("l5,0;b7,0;w0;w0;w0;");
        gramsAre(x, 10, 0, 0, 0);
        x.nights(1);
        gramsAre(x, 10, 8, 2, 0);
        gramsAre(x, 999, 714, 285, 0);
        gramsAre(x, 1, 1, 0, 0);
        gramsAre(x, 0, 0, 0, 0);
        x.catchIt(0);
        gramsAre(x, 10, 0, 10, 0);
        x.catchIt(1);
        gramsAre(x, 10, 0, 0, 0);
        x = Due.told("l3,0;b0,0;b8,0;b0,0;w1;w0;w0;w0;");
        x.nights(1);
        gramsAre(x, 10, 0, 4, 4, 2);
        gramsAre(Due.told("l1,0;b1,0;b1,0;w0;w1;"), 5, 0, 0);
        x = Due.told("l1,0;b1,0;b9,0;w1;r1;");
        x.nights(1);
        gramsAre(x, 5, 3, 2);
        x.catchIt(1);
        gramsAre(x, 5, 5, 0);
        Due.due("grams(4, 0)", x.grams(4, 0), Due.BAD);
        Due.due("grams(-1, 0)", x.grams(-1, 0), Due.BAD);
        Due.due("grams(0, -1)", x.grams(0, -1), Due.BAD);
        Due.due("grams(0, 1000)", x.grams(0, 1000), Due.BAD);
    }

    private static void whoItWas() {
        FishReaders x = Due.told("l3,0;b40,0;b40,0;s0;");
        Due.tell(x, 2, 99, 37, 34);
        Due.due("KINDS", x.who(0, 0, 0, 2, 1, 2), 46);
        Due.due("PLACES", x.who(0, 1, 0, 2, 1, 2), 1);
        Due.due("KINDS that do not eat of it", x.who(0, 0, 1, 2, 1, 2), 0);
        Due.tell(x, 2, 40, 37);
        Due.due("a wanderer's KIND", x.who(0, 0, 0, 2, 0, 2), 16);
        Due.tell(x, 2, 40, 40);
        Due.due("the other PLACE", x.who(0, 1, 0, 2, 0, 2), 2);
        Due.due("none fits", x.who(0, 0, 0, 2, 0, 2), 0);
        x.row(0, 0, 40);
        Due.due("PLACES where it is not eaten at all", x.who(0, 1, 0, 0, 28, 12), 0);
    }

    private static void whoIsRefused() {
        FishReaders x = Due.told("l3,0;b40,0;b40,0;s0;");
        x.row(2, 2, 12);
        Due.due("FISH", x.who(1, 0, 0, 2, 0, 1), Due.BAD);
        Due.due("FISH below", x.who(-1, 0, 0, 2, 0, 1), Due.BAD);
        Due.due("which", x.who(0, 2, 0, 2, 0, 1), Due.BAD);
        Due.due("which below", x.who(0, -1, 0, 2, 0, 1), Due.BAD);
        Due.due("BOOK", x.who(0, 0, 2, 2, 0, 1), Due.BAD);
        Due.due("ROW", x.who(0, 0, 0, 8, 0, 1), Due.BAD);
        Due.due("n of 0", x.who(0, 0, 0, 2, 0, 0), Due.BAD);
        Due.due("n of 13", x.who(0, 0, 0, 2, 0, 13), Due.BAD);
        Due.due("NULL", x.who(0, 0, 0, 3, 0, 12), Due.NULL);
        Due.due("PLACE, beyond", x.who(0, 0, 0, 2, 1, 12), Due.PLACE);
        Due.due("PLACE, below", x.who(0, 0, 0, 2, -1, 1), Due.PLACE);
        Due.due("PLACE, far", x.who(0, 0, 0, 2, Integer.MAX_VALUE, 12), Due.PLACE);
        x.catchIt(0);
        Due.due("CAUGHT", x.who(0, 0, 0, 3, -1, 1), Due.STATE);
        Due.due("CAUGHT, BAD is ahead", x.who(0, 0, 0, 9, -1, 1), Due.BAD);
    }

    private static void whichPaste() {
        FishReaders x = Due.told("l3,0;b9,0;b0,0;b40,0;r1;");
        Due.tell(x, 0, 6);
        Due.tell(x, 1, 9, 9);
        Due.due("by its own PAGES", x.paste(0, 0, 0, 0, 1), 1008);
        Due.due("by PAGES of the other one", x.paste(2, 0, 1, 0, 1), 1023);
        Due.due("likewise, later", x.paste(0, 0, 1, 0, 2), 15);
        Due.due("BOOK", x.paste(3, 0, 0, 0, 1), Due.BAD);
        Due.due("other", x.paste(0, -1, 0, 0, 1), Due.BAD);
        Due.due("ROW", x.paste(0, 0, -1, 0, 1), Due.BAD);
        Due.due("n of 0", x.paste(0, 0, 0, 0, 0), Due.BAD);
        Due.due("n of 13", x.paste(0, 0, 0, 0, 13), Due.BAD);
        Due.due("NULL", x.paste(0, 0, 5, -1, 1), Due.NULL);
        Due.due("PLACE", x.paste(0, 0, 0, 0, 2), Due.PLACE);
        Due.due("PLACE below", x.paste(0, 0, 0, -1, 1), Due.PLACE);
    }

    private static void whichHunger() {
        FishReaders x = Due.told("l3,0;b9,0;w0;");
        Due.tell(x, 0, 4, 0);
        Due.due("hunger 5", x.hungers(0, 0, 0, 2), 32);
        Due.due("9 is all", x.hungers(0, 0, 1, 1), 512);
        Due.due("BOOK", x.hungers(1, 0, 0, 1), Due.BAD);
        Due.due("ROW", x.hungers(0, 8, 0, 1), Due.BAD);
        Due.due("n of 0", x.hungers(0, 0, 0, 0), Due.BAD);
        Due.due("n of 13", x.hungers(0, 0, 0, 13), Due.BAD);
        Due.due("NULL", x.hungers(0, 1, 5, 1), Due.NULL);
        Due.due("PLACE", x.hungers(0, 0, 1, 2), Due.PLACE);
        Due.due("PLACE below", x.hungers(0, 0, -1, 1), Due.PLACE);
    }

    private static void darkIs(FishReaders x, int book, int n, int p, long above, long below) {
        Due.due("dark(" + book + ", " + n + ", " + p + ", 0)", x.dark(book, n, p, 0), above);
        Due.due("dark(" + book + ", " + n + ", " + p + ", 1)", x.dark(book, n, p, 1), below);
    }

    private static void lampsGoOut() {
        FishReaders x = Due.told("l9,3;b9,0;b9,0;b9,0;s0;");
        darkIs(x, 0, 1, 3, 0, 1);
        x.light(0, 1);
        darkIs(x, 0, 0, 3, 1, 1);
        darkIs(x, 0, 1, 3, 7, 10);
        darkIs(x, 1, 1, 3, 3, 10);
        darkIs(x, 2, 1, 3, 1, 1);
        darkIs(x, 0, 1, 5, 1, 2);
        darkIs(x, 0, 1, 0, 1, 1);
        darkIs(x, 0, 1, 10, 0, 1);
        x.light(1, 1);
        x.light(2, 1);
        darkIs(x, 2, 2, 3, 79, 100);
        x = Due.told("l1,1;b2,0;b0,0;w1;");
        x.light(1, 1);
        darkIs(x, 0, 1, 4, 1, 1);
        darkIs(x, 0, 2, 4, 1, 1);
        Due.due("dark(3, ..)", x.dark(3, 0, 0, 0), Due.BAD);
        Due.due("dark(-1, ..)", x.dark(-1, 0, 0, 0), Due.BAD);
        Due.due("n of -1", x.dark(0, -1, 0, 0), Due.BAD);
        Due.due("n of 61", x.dark(0, 61, 0, 0), Due.BAD);
        Due.due("p of -1", x.dark(0, 0, -1, 0), Due.BAD);
        Due.due("p of 11", x.dark(0, 0, 11, 0), Due.BAD);
        Due.due("what of 2", x.dark(0, 0, 0, 2), Due.BAD);
    }

    private static void drawnAre(FishReaders x, int n, int seed, int pages, int empty) {
        Due.due("drawn(" + n + ", " + seed + ", 0)", x.drawn(n, seed, 0), pages);
        Due.due("drawn(" + n + ", " + seed + ", 1)", x.drawn(n, seed, 1), empty);
    }

    private static void centuriesAreDrawn() {
        // 16807 times 3 is odd, and by 3; times 15 it is odd, by 3 and by 5; times 1 neither
        FishReaders x = Due.told("l9,1;b9,0;b9,0;w0;");
        drawnAre(x, 0, 3, 18, 0);
        drawnAre(x, 1, 1, 9, 1);
        drawnAre(x, 1, 3, 18, 0);
        drawnAre(x, 1, 15, 18, 0);
        drawnAre(x, 1, 999999, 9, 1);
        x.light(1, 1);
        drawnAre(x, 1, 3, 18, 0);
        drawnAre(x, 1, 15, 9, 1);
        drawnAre(x, 1, 5, 9, 1);
        x.light(1, 0);
        x.light(0, 1);
        drawnAre(x, 1, 3, 9, 1);
        drawnAre(Due.told("l9,0;b9,0;b9,0;w0;"), 1, 3, 9, 1);
        Due.due("n of -1", x.drawn(-1, 1, 0), Due.BAD);
        Due.due("n of 61", x.drawn(61, 1, 0), Due.BAD);
        Due.due("SEED of 0", x.drawn(1, 0, 0), Due.BAD);
        Due.due("SEED of 1000000", x.drawn(1, 1000000, 0), Due.BAD);
        Due.due("what of 2", x.drawn(1, 1, 2), Due.BAD);
    }

    private static void imagesAreKept() {
        FishReaders x = new FishReaders();
        Due.due("no LIBRARY", x.image(0), Due.STATE);
        Due.due("image(2)", x.image(2), Due.BAD);
        Due.due("image(-1)", x.image(-1), Due.BAD);
        Due.due("none kept", x.restore(1), Due.STATE);
        x = Due.told("l4,2;b30,5;b60,1;w0;w1;");
        x.nights(3);
        x.light(0, 1);
        x.catchIt(1);
        Due.due("image(0)", x.image(0), 1);
        Due.due("ACTS stay", x.count(6), 5);
        Due.due("the other one is not kept", x.restore(1), Due.STATE);
        x.change(0, 1);
        x.nights(2);
        x.light(0, 0);
        x.keepIt(1, 1);
        x.image(1);
        Due.due("restore(0)", x.restore(0), 1);
        Due.due("no ACT can be undone", x.undo(), Due.STATE);
        Due.due("NIGHT", x.count(3), 3);
        Due.due("PAGES of all", x.count(4), 66);
        Due.due("PLACE", x.book(0, 2), 0);
        Due.due("LIT", x.stand(0), 1);
        Due.due("KEPT", x.stand(1), 0);
        Due.due("CAUGHT", x.stand(2), 2);
        Due.due("DUST", x.fish(1, 1), 12);
        x.nights(4);
        Due.due("again", x.restore(0), 1);
        Due.due("the same", x.count(3), 3);
        Due.due("restore(1)", x.restore(1), 1);
        Due.due("NIGHT", x.count(3), 5);
        Due.due("KEPT", x.stand(1), 2);
        Due.due("restore(2)", x.restore(2), Due.BAD);
        Due.due("restore(-1)", x.restore(-1), Due.BAD);
    }

    private static void nothingChangesByForetelling() {
        FishReaders x = Due.told("l4,2;b30,5;b60,1;r0;w1;");
        x.light(1, 1);
        Due.tell(x, 0, 26);
        x.ahead(0, 60, 0);
        x.later(0, 60, 0);
        x.when(0);
        x.first(0);
        x.hole(0, 60);
        x.order(3, 12, 0);
        x.lamp(0, 60, 0);
        x.caught(0, 60, 0);
        x.who(0, 0, 0, 0, 0, 1);
        x.who(0, 1, 0, 0, 0, 1);
        x.paste(0, 0, 0, 0, 1);
        x.hungers(0, 0, 0, 1);
        x.dark(0, 60, 5, 0);
        x.drawn(60, 1, 0);
        Due.due("NIGHT", x.count(3), 0);
        Due.due("ACTS", x.count(6), 1);
        Due.due("DUST", x.count(5), 0);
        Due.due("PAGES", x.count(4), 90);
        Due.due("HUNGER", x.stand(4), 4);
        Due.due("LIT", x.stand(0), 2);
        Due.due("CAUGHT", x.stand(2), 0);
        Due.due("PASTE", x.book(0, 1), 5);
        Due.due("PLACE of BOOK 0", x.book(0, 2), 0);
        Due.due("PLACE of FISH 1", x.fish(1, 0), 1);
        Due.due("KIND", x.kind(0), 1);
    }
}
