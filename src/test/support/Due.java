/** What tests share: telling a library, and comparing an answer with the one that is due. */
final class Due {
    // by their numbers, as the document tells them
    static final int NONE = -1000000, BAD = -1000001, STATE = -1000002, FULL = -1000003;
    static final int NULL = -1000011, PLACE = -1000012, KIND = -1000013, SIZE = -1000014, STORE = -1000015;

    private static int wrong = 0;

    static void due(String call, long got, long want) {
        if (got != want) {
            wrong++;
            System.out.println(test() + call + " answered " + got + ", due is " + want);
        }
    }

    /** Where the test stands that asks: the nearest frame that is none of what tests share. */
    private static String test() {
        return StackWalker.getInstance().walk(frames -> frames
                .filter(f -> !f.getClassName().matches("Due|Run|Promise"))
                .map(f -> f.getClassName() + "." + f.getMethodName() + ":" + f.getLineNumber() + ": ")
                .findFirst().orElse(""));
    }

    static void feed(FishReaders x, String text) {
        for (int k = 0; k < text.length(); k++) {
            x.feed(text.charAt(k));
        }
    }

    static FishReaders told(String text) {
        FishReaders x = new FishReaders();
        feed(x, text);
        int fish = x.library();
        if (fish < 1) {
            due("library() of " + text, fish, 1);
        }
        return x;
    }

    /** Makes a row of ints with these items. */
    static void tell(FishReaders x, int row, int... items) {
        x.row(row, 2, items.length);
        for (int i = 0; i < items.length; i++) {
            x.set(row, i, items[i]);
        }
    }

    static void end() {
        System.out.println(wrong == 0 ? "all answers are as due" : wrong + " answers are not as due");
        if (wrong != 0) {
            System.exit(1);
        }
    }
}
