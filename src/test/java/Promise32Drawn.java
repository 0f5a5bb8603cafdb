/** Promise 32: drawn. */
public final class Promise32Drawn extends Promise {

    public static void main(String[] args) {
        tellsPagesAndHowManyHaveNone();
        isLitIfXBy3Leaves0();
        asManyAsLampsAtMost();
        isNoMoreLitIfXBy5Leaves0();
        onlyIfItWasLitAheadOfThat();
        xGoesOnFromNightToNight();
        nightsAre0To60();
        seedsAre1To999999();
        whatIs0Or1();
        noLibraryIsStateAheadOfBad();
        end();
    }

    private static void drawnAre(Run x, int n, int seed, int pages, int empty) {
        x.tells("drawn(" + n + ", " + seed + ", 0)", pages).tells("drawn(" + n + ", " + seed + ", 1)", empty);
    }

    /** A wanderer at 0 eats all of book 1 on the first night, if that is not lit. */
    private static Run two(int lamps) {
        return told("l9," + lamps + ";b9,0;b9,0;w0;");
    }

    private static void tellsPagesAndHowManyHaveNone() {
        // X is 16807, odd: by 3 it leaves 1, by 5 it leaves 2
        drawnAre(two(1), 1, 1, 9, 1);
        drawnAre(two(1), 2, 1, 0, 2);
        drawnAre(told("l1,0;b0,0;b0,0;b1,0;w0;"), 1, 1, 1, 2);
        drawnAre(told("l1,0;b0,0;w0;"), 60, 1, 0, 1);
    }

    private static void isLitIfXBy3Leaves0() {
        // 50421: odd, by 3 it leaves 0, by 5 it leaves 1
        drawnAre(two(1), 1, 3, 18, 0);
        drawnAre(two(8), 1, 3, 18, 0);
        // 100842: even, so it is book 0, which is not eaten
        drawnAre(two(1), 1, 6, 9, 1);
        drawnAre(told("l9,1;b9,0;w0;"), 1, 3, 9, 0);
        drawnAre(told("l9,1;b9,0;w0;"), 1, 1, 0, 1);
        drawnAre(told("l9,1;b9,0;w0;"), 1, 2, 0, 1);
    }

    private static void asManyAsLampsAtMost() {
        drawnAre(two(0), 1, 3, 9, 1);
        drawnAre(two(1).does("light(0, 1)"), 1, 3, 9, 1);
        drawnAre(two(2).does("light(0, 1)"), 1, 3, 18, 0);
    }

    private static void isNoMoreLitIfXBy5Leaves0() {
        // 84035: odd, by 3 it leaves 2, by 5 it leaves 0
        drawnAre(two(1).does("light(1, 1)"), 1, 5, 9, 1);
        drawnAre(two(1).does("light(1, 1)"), 1, 1, 18, 0);
        drawnAre(two(1).does("light(1, 1)"), 1, 3, 18, 0);
        // 252105: odd, by 3 and by 5 it leaves 0
        drawnAre(two(1).does("light(1, 1)"), 1, 15, 9, 1);
        drawnAre(two(2).does("light(1, 1)"), 1, 15, 9, 1);
    }

    private static void onlyIfItWasLitAheadOfThat() {
        drawnAre(two(1), 1, 15, 18, 0);
        drawnAre(two(1), 1, 5, 9, 1);
    }

    private static void xGoesOnFromNightToNight() {
        // 50421, then 847425747: odd, by 5 it leaves 2
        drawnAre(two(1), 2, 3, 9, 1);
        // X behind each night, once more: by the words of the terms, for one book
        for (int seed : new int[] {1, 2, 77, 127773, 500000, 999999}) {
            long x = seed;
            boolean lit = false;
            int pages = 99;
            for (int n = 1; n <= 60; n++) {
                x = x * 16807 % 2147483647L;
                lit = lit ? x % 5 != 0 : x % 3 == 0;
                pages -= lit ? 0 : 1;
                drawnAre(told("l1,1;b99,0;w0;"), n, seed, pages, 0);
            }
        }
    }

    private static void nightsAre0To60() {
        drawnAre(two(1), 0, 3, 18, 0);
        drawnAre(told("l1,0;b99,0;w0;"), 60, 7, 39, 0);
        used().tells("drawn(-1, 1, 0)", BAD).tells("drawn(61, 1, 0)", BAD).tells("drawn(61, 1, 1)", BAD);
        used().tells("drawn(MOST, 1, 0)", BAD).tells("drawn(LEAST, 1, 0)", BAD);
    }

    private static void seedsAre1To999999() {
        // 999999 times 16807 is beyond an int: X is 1774597664, even, by 3 it leaves 2
        drawnAre(two(1), 1, 999999, 9, 1);
        drawnAre(two(1).does("light(0, 1)"), 1, 999999, 9, 1);
        used().tells("drawn(1, 0, 0)", BAD).tells("drawn(1, 1000000, 0)", BAD).tells("drawn(0, 0, 1)", BAD);
        used().tells("drawn(1, -1, 0)", BAD).tells("drawn(1, MOST, 0)", BAD).tells("drawn(1, LEAST, 0)", BAD);
    }

    private static void whatIs0Or1() {
        used().tells("drawn(1, 1, -1)", BAD).tells("drawn(1, 1, 2)", BAD);
        used().tells("drawn(1, 1, MOST)", BAD).tells("drawn(1, 1, LEAST)", BAD);
    }

    private static void noLibraryIsStateAheadOfBad() {
        run().tells("drawn(0, 1, 0)", STATE).tells("drawn(60, 999999, 1)", STATE).tells("drawn(-1, 1, 0)", STATE);
        run().tells("drawn(0, 0, 0)", STATE).tells("drawn(0, 1, 2)", STATE).tells("drawn(61, 1000000, -1)", STATE);
    }
}
