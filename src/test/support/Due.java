/** What tests share: telling a library, and comparing an answer with the one that is due. */
final class Due {
    static final int NONE = FishReaders.NONE;
    static final int BAD = FishReaders.BAD;
    static final int STATE = FishReaders.STATE;
    static final int FULL = FishReaders.FULL;
    static final int NULL = -1000011, PLACE = -1000012, KIND = -1000013, SIZE = -1000014, STORE = -1000015;

    private static int wrong = 0;

    static void due(String call, long got, long want) {
        if (got != want) {
            wrong++;
            System.out.println(call + " answered " + got + ", due is " + want);
        }
    }

    static void feed(FishReaders x, String text) {
        for (int k = 0; k < text.length(); k++) {
            x.feed(text.charAt(k));
        }
    }

    static FishReaders told(String text) {
        FishReaders x = new FishReaders();
        feed(x, text);
        int fish = x.library();
        if (fish < 1) {
            due("library() of " + text, fish, 1);
        }
        return x;
    }

    /** Makes a row of ints with these items. */
    static void tell(FishReaders x, int row, int... items) {
        x.row(row, 2, items.length);
        for (int i = 0; i < items.length; i++) {
            x.set(row, i, items[i]);
        }
    }

    static void end() {
        System.out.println(wrong == 0 ? "all answers are as due" : wrong + " answers are not as due");
        if (wrong != 0) {
            System.exit(1);
        }
    }
}
