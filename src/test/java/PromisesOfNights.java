/** Promises 9 to 18 with sections 2 of the terms: nights, acts, what stands. */
public final class PromisesOfNights {

    public static void main(String[] args) {
        aReaderGoesWhereItLikes();
        aPoetCountsPasteTwice();
        aCriticRunsFromLight();
        wanderersAndScholarsGoUp();
        oneFishAfterTheOther();
        closedBooksAreNotEaten();
        itIsDampEachFourthNight();
        nightsArePassed();
        nightsEndAt999();
        booksAreLit();
        booksAreKept();
        booksChange();
        fishAreMoved();
        fishAreCaught();
        actsAreUndone();
        onlyTheLatestActsAreKept();
        aBookIsTold();
        aFishIsTold();
        whatStandsIsTold();
        Due.end();
    }

    private static void goes(String text, int fish, int place) {
        FishReaders x = Due.told(text);
        x.nights(1);
        Due.due("behind a night of " + text + " fish " + fish, x.fish(fish, 0), place);
    }

    private static void aReaderGoesWhereItLikes() {
        goes("l1,0;b10,5;b0,9;b10,5;r1;", 0, 0);
        goes("l1,0;b10,5;b0,9;b20,5;r1;", 0, 2);
        goes("l1,0;b19,5;b0,9;b20,5;r1;", 0, 2);
        goes("l1,0;b10,6;b0,9;b20,5;r1;", 0, 0);
        goes("l1,0;b0,0;b0,0;b5,0;r0;", 0, 1);
        goes("l1,0;b5,0;b0,0;b0,0;b0,0;b0,0;b0,0;r5;", 0, 4);
        goes("l1,0;b0,9;b0,9;r1;", 0, 1);
        goes("l1,0;b50,0;b50,0;b50,2;r0;", 0, 0);
        goes("l1,0;b50,0;b50,0;b50,3;r0;", 0, 1);
    }

    private static void aPoetCountsPasteTwice() {
        goes("l1,0;b9,3;b0,0;b50,0;r1;", 0, 2);
        goes("l1,0;b9,3;b0,0;b50,0;p1;", 0, 0);
        goes("l1,0;b9,3;b0,0;b50,0;c1;", 0, 2);
    }

    private static void aCriticRunsFromLight() {
        String text = "l1,3;b30,0;b50,0;b90,9;c2;";
        goes(text, 0, 2);
        FishReaders x = Due.told(text);
        x.light(2, 1);
        Due.due("LIKED, though it would run", x.fish(0, 2), 1);
        x.nights(1);
        Due.due("beyond the shelf, as a ring", x.fish(0, 0), 1);
        x.nights(1);
        Due.due("it stays where it is dark", x.fish(0, 0), 1);
        x.move(0, 0);
        x.light(0, 1);
        x.nights(1);
        Due.due("two up", x.fish(0, 0), 2);
        x = Due.told(text);
        x.keepIt(2, 1);
        x.nights(1);
        Due.due("it does not run from what is KEPT", x.fish(0, 0), 1);
        x = Due.told("l1,3;b30,0;c0;");
        x.light(0, 1);
        x.nights(1);
        Due.due("the ring of one", x.fish(0, 0), 0);
    }

    private static void wanderersAndScholarsGoUp() {
        goes("l1,0;b9,0;b9,0;w0;", 0, 1);
        goes("l1,0;b9,0;b9,0;w1;", 0, 0);
        goes("l1,0;b9,0;b9,0;s1;", 0, 1);
        goes("l1,0;b9,0;b0,0;s1;", 0, 0);
        goes("l1,0;b0,0;b9,0;s0;", 0, 1);
        FishReaders x = Due.told("l1,1;b9,0;b9,0;b9,0;s0;s1;");
        x.light(0, 1);
        x.keepIt(1, 1);
        x.nights(1);
        Due.due("from a LIT one", x.fish(0, 0), 1);
        Due.due("from a KEPT one", x.fish(1, 0), 2);
        Due.due("the KEPT one is whole", x.book(1, 0), 9);
        Due.due("the next one is not", x.book(2, 0), 8);
        Due.due("a wanderer LIKES none", Due.told("l1,0;b9,9;w0;").fish(0, 2), Due.NONE);
        Due.due("a scholar LIKES none", Due.told("l1,0;b9,9;s0;").fish(0, 2), Due.NONE);
    }

    private static void oneFishAfterTheOther() {
        FishReaders x = Due.told("l3,0;b10,7;b20,6;r1;r1;");
        Due.due("both LIKE book 1", x.fish(1, 2), 1);
        x.nights(1);
        Due.due("fish 0 stays", x.fish(0, 0), 1);
        Due.due("fish 1 goes, as book 1 is less by then", x.fish(1, 0), 0);
        Due.due("DUST of 0", x.fish(0, 1), 3);
        Due.due("DUST of 1", x.fish(1, 1), 3);
        x = Due.told("l5,0;b7,0;w0;w0;w0;");
        Due.due("all there is, no more", x.nights(1), 0);
        Due.due("the first has 5", x.fish(0, 1), 5);
        Due.due("the second has 2", x.fish(1, 1), 2);
        Due.due("the third has none", x.fish(2, 1), 0);
    }

    private static void closedBooksAreNotEaten() {
        FishReaders x = Due.told("l2,1;b9,0;b9,0;w0;");
        x.light(1, 1);
        x.keepIt(0, 1);
        Due.due("nothing is eaten", x.nights(3), 18);
        Due.due("it went all the same", x.fish(0, 0), 1);
        x.keepIt(0, 0);
        Due.due("no more KEPT", x.nights(1), 16);
        x.light(1, 0);
        Due.due("no more LIT", x.nights(1), 14);
    }

    private static void itIsDampEachFourthNight() {
        FishReaders x = Due.told("l1,1;b0,0;b0,8;b0,3;b0,9;w0;");
        x.keepIt(2, 1);
        x.light(0, 1);
        x.nights(3);
        Due.due("not yet", x.book(0, 1), 0);
        x.nights(1);
        Due.due("a LIT one, too", x.book(0, 1), 1);
        Due.due("8 becomes 9", x.book(1, 1), 9);
        Due.due("not a KEPT one", x.book(2, 1), 3);
        Due.due("9 at most", x.book(3, 1), 9);
        x.nights(3);
        Due.due("not ahead of the next", x.book(0, 1), 1);
        x.nights(1);
        Due.due("again", x.book(0, 1), 2);
        Due.due("9 at most, again", x.book(1, 1), 9);
    }

    private static void nightsArePassed() {
        FishReaders x = Due.told("l4,2;b30,5;b60,1;w0;w1;");
        Due.due("nights(0)", x.nights(0), Due.BAD);
        Due.due("nights(25)", x.nights(25), Due.BAD);
        Due.due("nights(-1)", x.nights(-1), Due.BAD);
        Due.due("nights(1)", x.nights(1), 82);
        Due.due("nights(2)", x.nights(2), 66);
        Due.due("NIGHT", x.count(3), 3);
        Due.due("an ACT each", x.count(6), 3);
        Due.due("nights(24)", x.nights(24), 0);
        Due.due("NIGHT", x.count(3), 27);
        Due.due("DUST of all", x.count(5), 90);
    }

    private static void nightsEndAt999() {
        FishReaders x = Due.told("l1,0;b9,0;w0;");
        for (int k = 0; k < 41; k++) {
            x.nights(24);
        }
        Due.due("NIGHT", x.count(3), 984);
        Due.due("1000 would be too many", x.nights(16), Due.FULL);
        Due.due("BAD is ahead of FULL", x.nights(25), Due.BAD);
        Due.due("up to 999", x.nights(15), 0);
        Due.due("no more", x.nights(1), Due.FULL);
        Due.due("NIGHT", x.count(3), 999);
        Due.due("foretold beyond", x.ahead(0, 60, 1), 9);
        Due.due("undo", x.undo(), 23);
        Due.due("one again", x.nights(1), 0);
    }

    private static void booksAreLit() {
        FishReaders x = Due.told("l1,2;b9,0;b9,0;b9,0;w0;");
        Due.due("light(3, 1)", x.light(3, 1), Due.BAD);
        Due.due("light(-1, 1)", x.light(-1, 1), Due.BAD);
        Due.due("light(0, 2)", x.light(0, 2), Due.BAD);
        Due.due("light(0, -1)", x.light(0, -1), Due.BAD);
        Due.due("light(0, 0)", x.light(0, 0), Due.STATE);
        Due.due("light(2, 1)", x.light(2, 1), 4);
        Due.due("light(2, 1) again", x.light(2, 1), Due.STATE);
        Due.due("light(0, 1)", x.light(0, 1), 5);
        Due.due("as many as LAMPS", x.light(1, 1), Due.STATE);
        Due.due("light(2, 0)", x.light(2, 0), 1);
        Due.due("room again", x.light(1, 1), 3);
        Due.due("ACTS", x.count(6), 4);
    }

    private static void booksAreKept() {
        FishReaders x = Due.told("l1,0;b9,0;b9,0;w0;");
        Due.due("keepIt(2, 1)", x.keepIt(2, 1), Due.BAD);
        Due.due("keepIt(0, 2)", x.keepIt(0, 2), Due.BAD);
        Due.due("keepIt(0, 0)", x.keepIt(0, 0), Due.STATE);
        Due.due("keepIt(1, 1)", x.keepIt(1, 1), 2);
        Due.due("keepIt(1, 1) again", x.keepIt(1, 1), Due.STATE);
        Due.due("as many as there are", x.keepIt(0, 1), 3);
        Due.due("keepIt(1, 0)", x.keepIt(1, 0), 1);
    }

    private static void booksChange() {
        FishReaders x = Due.told("l1,1;b1,0;b2,0;b3,0;w0;");
        Due.due("change(0, 3)", x.change(0, 3), Due.BAD);
        Due.due("change(-1, 0)", x.change(-1, 0), Due.BAD);
        Due.due("change(1, 1)", x.change(1, 1), Due.BAD);
        Due.due("change(0, 2)", x.change(0, 2), 2);
        Due.due("change(0, 1)", x.change(0, 1), 1);
        Due.due("PLACE of 0", x.book(0, 2), 1);
        Due.due("PLACE of 1", x.book(1, 2), 2);
        Due.due("PLACE of 2", x.book(2, 2), 0);
        Due.due("the fish stays", x.fish(0, 0), 0);
        Due.due("the BOOK there", x.fish(0, 3), 2);
        x.light(0, 1);
        x.nights(1);
        Due.due("LIT goes with the BOOK", x.stand(3), 6);
        Due.due("where it is LIT", x.fish(0, 3), 0);
    }

    private static void fishAreMoved() {
        FishReaders x = Due.told("l1,1;b1,0;b2,0;b3,0;w0;s2;");
        Due.due("move(2, 0)", x.move(2, 0), Due.BAD);
        Due.due("move(-1, 0)", x.move(-1, 0), Due.BAD);
        Due.due("move(0, 3)", x.move(0, 3), Due.BAD);
        Due.due("move(0, -1)", x.move(0, -1), Due.BAD);
        Due.due("it is there", x.move(0, 0), Due.STATE);
        Due.due("move(1, 0)", x.move(1, 0), 2);
        Due.due("both", x.book(0, 5), 3);
        x.catchIt(1);
        Due.due("CAUGHT", x.move(1, 2), Due.STATE);
        Due.due("CAUGHT, BAD is ahead", x.move(1, 3), Due.BAD);
    }

    private static void fishAreCaught() {
        FishReaders x = Due.told("l1,1;b9,0;b9,0;b9,0;w0;s2;r1;");
        Due.due("catchIt(3)", x.catchIt(3), Due.BAD);
        Due.due("catchIt(-1)", x.catchIt(-1), Due.BAD);
        Due.due("catchIt(2)", x.catchIt(2), 4);
        Due.due("catchIt(0)", x.catchIt(0), 5);
        Due.due("catchIt(0) again", x.catchIt(0), Due.STATE);
        Due.due("one eats yet", x.nights(1), 26);
        Due.due("PLACE", x.fish(0, 0), Due.NONE);
        Due.due("BOOK there", x.fish(0, 3), Due.NONE);
        Due.due("LIKED", x.fish(2, 2), Due.NONE);
        Due.due("no FISH there", x.book(1, 5), 0);
        Due.due("FISH are as many", x.count(2), 3);
        Due.due("stand(2)", x.stand(2), 5);
    }

    private static void actsAreUndone() {
        FishReaders x = Due.told("l3,2;b30,5;b60,1;b9,9;r0;w1;s2;");
        x.nights(1);
        x.light(1, 1);
        x.keepIt(0, 1);
        x.change(0, 2);
        x.move(1, 0);
        x.catchIt(0);
        Due.due("ACTS", x.count(6), 6);
        Due.due("undo catchIt", x.undo(), 5);
        Due.due("CAUGHT", x.stand(2), 0);
        Due.due("undo move", x.undo(), 4);
        Due.due("PLACE", x.fish(1, 0), 2);
        Due.due("undo change", x.undo(), 3);
        Due.due("PLACE of 0", x.book(0, 2), 0);
        Due.due("PLACE of 2", x.book(2, 2), 2);
        Due.due("undo keepIt", x.undo(), 2);
        Due.due("KEPT", x.stand(1), 0);
        Due.due("undo light", x.undo(), 1);
        Due.due("LIT", x.stand(0), 0);
        Due.due("undo the night", x.undo(), 0);
        Due.due("NIGHT", x.count(3), 0);
        Due.due("PAGES", x.stand(3), 99);
        Due.due("DUST", x.count(5), 0);
        Due.due("PLACE of FISH 1", x.fish(1, 0), 1);
        Due.due("none", x.undo(), Due.STATE);
        x.light(1, 0);
        Due.due("what is refused is no ACT", x.count(6), 0);
    }

    private static void onlyTheLatestActsAreKept() {
        FishReaders x = Due.told("l1,0;b99,0;w0;");
        x.nights(20);
        x.nights(10);
        Due.due("24 at most", x.count(6), 24);
        for (int k = 23; k >= 0; k--) {
            Due.due("undo", x.undo(), k);
            Due.due("PAGES", x.stand(3), 99 - 6 - k);
        }
        Due.due("the oldest are forgotten", x.undo(), Due.STATE);
        Due.due("NIGHT", x.count(3), 6);
        x.nights(3);
        Due.due("anew", x.undo(), 2);
        Due.due("NIGHT", x.count(3), 8);
    }

    private static void aBookIsTold() {
        FishReaders x = Due.told("l4,2;b30,5;b60,1;r0;w1;s1;");
        x.change(0, 1);
        x.light(0, 1);
        x.keepIt(1, 1);
        int[] first = {30, 5, 1, 1, 0, 6};
        int[] second = {60, 1, 0, 0, 1, 1};
        for (int what = 0; what < 6; what++) {
            Due.due("book(0, " + what + ")", x.book(0, what), first[what]);
            Due.due("book(1, " + what + ")", x.book(1, what), second[what]);
        }
        Due.due("book(0, 6)", x.book(0, 6), Due.BAD);
        Due.due("book(0, -1)", x.book(0, -1), Due.BAD);
        Due.due("book(2, 0)", x.book(2, 0), Due.BAD);
        Due.due("book(-1, 0)", x.book(-1, 0), Due.BAD);
    }

    private static void aFishIsTold() {
        FishReaders x = Due.told("l4,2;b30,5;b60,1;b9,9;r0;p1;");
        x.change(0, 2);
        int[] first = {0, 0, 2, 2};
        int[] second = {1, 0, 0, 1};
        for (int what = 0; what < 4; what++) {
            Due.due("fish(1, " + what + ")", x.fish(1, what), second[what]);
        }
        first[2] = 0;
        for (int what = 0; what < 4; what++) {
            Due.due("fish(0, " + what + ")", x.fish(0, what), first[what]);
        }
        x.catchIt(0);
        Due.due("CAUGHT: PLACE", x.fish(0, 0), Due.NONE);
        Due.due("CAUGHT: DUST", x.fish(0, 1), 0);
        Due.due("fish(0, 4)", x.fish(0, 4), Due.BAD);
        Due.due("fish(0, -1)", x.fish(0, -1), Due.BAD);
        Due.due("fish(2, 0)", x.fish(2, 0), Due.BAD);
    }

    private static void whatStandsIsTold() {
        FishReaders x = Due.told("l4,2;b30,5;b60,1;r0;w1;");
        x.light(1, 1);
        x.keepIt(0, 1);
        x.catchIt(1);
        int[] due = {2, 1, 2, 90, 4, 2, Due.BAD};
        for (int what = 0; what < due.length; what++) {
            Due.due("stand(" + what + ")", x.stand(what), due[what]);
        }
        Due.due("stand(-1)", x.stand(-1), Due.BAD);
    }
}
