/** The national library and its only readers, the silverfish; the document numbers what is promised. */
public final class FishReaders {

    public static final int NONE = -1000000, BAD = -1000001, STATE = -1000002, FULL = -1000003;

    private static final int FINDINGS = -1000010;
    private static final int NULL = 1, PLACE = 2, KIND = 3, SIZE = 4, STORE = 5;
    private static final int FAULTS = -1000100;

    private static final int MOST_BOOKS = 6;
    private static final int MOST_FISH = 5;
    private static final int MOST_ORDERS = 720;
    private static final int MOST_NIGHT = 999;
    private static final int MOST_AHEAD = 60;
    private static final int MOST_TOLD = 12;
    private static final int MOST_ACTS = 24;
    private static final int MOST_PASTE = 9;
    private static final int MOST_HUNGER = 9;

    private static final int READER = 1, POET = 2, CRITIC = 3, WANDERER = 4, SCHOLAR = 5;
    private static final int[] BROADER_KIND = {NONE, 0, READER, READER, 0, WANDERER};

    private final Rows rows;
    private final Tape tape;
    private final Library now;
    private final Library draft;
    private final Library imageZero;
    private final Library imageOne;
    private final Acts acts;
    private final Foretold foretold;
    private final Bodies bodies;
    private int finding;

    public FishReaders() {
        rows = new Rows();
        tape = new Tape();
        now = new Library();
        draft = new Library();
        imageZero = new Library();
        imageOne = new Library();
        acts = new Acts();
        foretold = new Foretold();
        bodies = new Bodies();
        finding = 0;
    }

    // ---- rows

    public int row(int row, int lane, int n) {
        if (!Rows.isRow(row) || !Rows.isLane(lane) || n > Rows.MOST_ITEMS) {
            return BAD;
        }
        if (n < 0) {
            return found(SIZE);
        }
        rows.make(row, lane, n);
        return foundNothing(n);
    }

    public int set(int row, int i, int v) {
        if (!Rows.isRow(row)) {
            return BAD;
        }
        int wrong = rows.findingAt(row, i, 1);
        if (wrong != 0) {
            return found(wrong);
        }
        return foundNothing(rows.put(row, i, v));
    }

    public int copy(int a, int i, int b, int j, int n) {
        if (!Rows.isRow(a) || !Rows.isRow(b)) {
            return BAD;
        }
        int wrong = rows.findingOfCopy(a, i, b, j, n);
        if (wrong != 0) {
            return found(wrong);
        }
        rows.shift(a, i, b, j, n);
        return foundNothing(n);
    }

    public int drop(int row) {
        if (!Rows.isRow(row)) {
            return BAD;
        }
        if (rows.isMissing(row)) {
            return found(NULL);
        }
        return foundNothing(rows.remove(row));
    }

    // ---- what is told

    public int feed(int letter) {
        if (!isWithin(letter, 0, 255)) {
            return BAD;
        }
        return tape.add(letter) ? tape.length : FULL;
    }

    public int library() {
        int wrong = tape.readInto(draft);
        if (wrong != NONE) {
            return FAULTS - wrong;
        }
        now.take(draft);
        acts.forget();
        return now.fishes;
    }

    public int fault() {
        return tape.latestFault;
    }

    public int undo() {
        if (acts.kept == 0) {
            return STATE;
        }
        acts.bringBack(now);
        return acts.kept;
    }

    // ---- what is done

    public int nights(int n) {
        if (!now.isTold()) {
            return STATE;
        }
        if (!isWithin(n, 1, MOST_ACTS)) {
            return BAD;
        }
        if (now.night + n > MOST_NIGHT) {
            return FULL;
        }
        for (int k = 0; k < n; k++) {
            acts.remember(now);
            now.passNight();
        }
        return now.pagesOfAll();
    }

    public int light(int book, int on) {
        if (!now.isBook(book) || !isWithin(on, 0, 1)) {
            return BAD;
        }
        if (bitOf(now.lit, book) == on) {
            return STATE;
        }
        if (on == 1 && Integer.bitCount(now.lit) >= now.lamps) {
            return STATE;
        }
        acts.remember(now);
        now.lit ^= 1 << book;
        return now.lit;
    }

    public int keepIt(int book, int on) {
        if (!now.isBook(book) || !isWithin(on, 0, 1)) {
            return BAD;
        }
        if (bitOf(now.kept, book) == on) {
            return STATE;
        }
        acts.remember(now);
        now.kept ^= 1 << book;
        return now.kept;
    }

    public int change(int book, int other) {
        if (!now.isBook(book) || !now.isBook(other) || book == other) {
            return BAD;
        }
        acts.remember(now);
        int place = now.placeOf[book];
        int otherPlace = now.placeOf[other];
        now.put(book, otherPlace);
        now.put(other, place);
        return otherPlace;
    }

    public int move(int fish, int place) {
        if (!now.isFish(fish) || !now.isPlace(place)) {
            return BAD;
        }
        int before = now.at[fish];
        if (before == place || now.isCaught(fish)) {
            return STATE;
        }
        acts.remember(now);
        now.at[fish] = place;
        return before;
    }

    public int catchIt(int fish) {
        if (!now.isFish(fish)) {
            return BAD;
        }
        if (now.isCaught(fish)) {
            return STATE;
        }
        acts.remember(now);
        now.caughtOnes |= 1 << fish;
        return now.caughtOnes;
    }

    public int book(int book, int what) {
        if (!now.isBook(book)) {
            return BAD;
        }
        switch (what) {
            case 0: return now.pages[book];
            case 1: return now.pasteOf[book];
            case 2: return now.placeOf[book];
            case 3: return bitOf(now.lit, book);
            case 4: return bitOf(now.kept, book);
            case 5: return now.fishIn(now.placeOf[book]);
            default: return BAD;
        }
    }

    public int fish(int fish, int what) {
        if (!now.isFish(fish)) {
            return BAD;
        }
        boolean nowhere = now.isCaught(fish);
        switch (what) {
            case 0: return nowhere ? NONE : now.at[fish];
            case 1: return now.dust[fish];
            case 2: return nowhere ? NONE : now.likedPlace(fish);
            case 3: return nowhere ? NONE : now.bookIn(now.at[fish]);
            default: return BAD;
        }
    }

    public int stand(int what) {
        if (!now.isTold()) {
            return STATE;
        }
        switch (what) {
            case 0: return now.lit;
            case 1: return now.kept;
            case 2: return now.caughtOnes;
            case 3: return now.pagesOfAll();
            case 4: return now.hunger;
            case 5: return now.lamps;
            default: return BAD;
        }
    }

    // ---- foretold

    public int ahead(int book, int n, int what) {
        if (!now.isBook(book) || !isWithin(n, 0, MOST_AHEAD) || !isWithin(what, 0, 1)) {
            return BAD;
        }
        Library then = foretold.behind(now, n);
        return what == 0 ? then.pages[book] : then.pasteOf[book];
    }

    public int later(int fish, int n, int what) {
        if (!now.isFish(fish) || !isWithin(n, 0, MOST_AHEAD) || !isWithin(what, 0, 1)) {
            return BAD;
        }
        Library then = foretold.behind(now, n);
        if (what == 1) {
            return then.dust[fish];
        }
        return then.isCaught(fish) ? NONE : then.at[fish];
    }

    public int when(int book) {
        if (!now.isBook(book)) {
            return BAD;
        }
        return foretold.nightsTillEmpty(now, 1 << book);
    }

    public int first(int what) {
        if (!now.isTold()) {
            return STATE;
        }
        if (!isWithin(what, 0, 1)) {
            return BAD;
        }
        int full = now.booksWithPages();
        int behind = foretold.nightsTillEmpty(now, full);
        return what == 1 || behind == NONE ? behind : foretold.emptyOneOf(full);
    }

    public int hole(int fish, int n) {
        if (!now.isFish(fish) || !isWithin(n, 0, MOST_AHEAD)) {
            return BAD;
        }
        return foretold.behind(now, n).holes[fish];
    }

    public int order(int books, int n, int place) {
        if (!now.isTold()) {
            return STATE;
        }
        if (!isWithin(books, 0, now.allBooks()) || !isWithin(n, 1, MOST_TOLD)) {
            return BAD;
        }
        if (place != -1 && !now.isPlace(place)) {
            return BAD;
        }
        int most = foretold.bestOrder(now, books, n);
        return place == -1 ? most : foretold.best[place];
    }

    public int lamp(int book, int n, int what) {
        if (!now.isBook(book) || !isWithin(n, 1, MOST_AHEAD) || !isWithin(what, 0, 1)) {
            return BAD;
        }
        int set = foretold.bestLamps(now, book, n);
        return what == 1 ? set : foretold.pagesIfLit(now, set, book, n);
    }

    public int caught(int book, int n, int what) {
        if (!now.isBook(book) || !isWithin(n, 1, MOST_AHEAD) || !isWithin(what, 0, 1)) {
            return BAD;
        }
        int set = foretold.fewestCaught(now, book, n);
        return what == 1 ? set : Integer.bitCount(set);
    }

    public int grams(int fish, int n) {
        if (!now.isFish(fish) || !isWithin(n, 0, 999)) {
            return BAD;
        }
        return now.isCaught(fish) ? 0 : now.gramsOf(fish, n);
    }

    public int who(int fish, int which, int book, int row, int i, int n) {
        if (!now.isFish(fish) || !isWithin(which, 0, 1) || !now.isBook(book)) {
            return BAD;
        }
        if (!Rows.isRow(row) || !isWithin(n, 1, MOST_TOLD)) {
            return BAD;
        }
        if (now.isCaught(fish)) {
            return STATE;
        }
        int wrong = rows.findingAt(row, i, n);
        if (wrong != 0) {
            return found(wrong);
        }
        rows.pick(row, i, n);
        return foundNothing(which == 0
                ? foretold.kindsThatFit(now, fish, book, rows)
                : foretold.placesThatFit(now, fish, book, rows));
    }

    public int paste(int book, int other, int row, int i, int n) {
        if (!now.isBook(book) || !now.isBook(other)) {
            return BAD;
        }
        if (!Rows.isRow(row) || !isWithin(n, 1, MOST_TOLD)) {
            return BAD;
        }
        int wrong = rows.findingAt(row, i, n);
        if (wrong != 0) {
            return found(wrong);
        }
        rows.pick(row, i, n);
        return foundNothing(foretold.pastesThatFit(now, book, other, rows));
    }

    public int hungers(int book, int row, int i, int n) {
        if (!now.isBook(book) || !Rows.isRow(row) || !isWithin(n, 1, MOST_TOLD)) {
            return BAD;
        }
        int wrong = rows.findingAt(row, i, n);
        if (wrong != 0) {
            return found(wrong);
        }
        rows.pick(row, i, n);
        return foundNothing(foretold.hungersThatFit(now, book, rows));
    }

    public long dark(int book, int n, int p, int what) {
        if (!now.isBook(book) || !isWithin(n, 0, MOST_AHEAD)) {
            return BAD;
        }
        if (!isWithin(p, 0, 10) || !isWithin(what, 0, 1)) {
            return BAD;
        }
        long above = foretold.casesWithPages(now, book, n, p);
        long below = power(10, Integer.bitCount(now.lit));
        long common = commonDivisor(above, below);
        if (common <= 0) {
            return BAD;
        }
        return what == 0 ? above / common : below / common;
    }

    public int drawn(int n, int seed, int what) {
        if (!now.isTold()) {
            return STATE;
        }
        if (!isWithin(n, 0, MOST_AHEAD) || !isWithin(seed, 1, 999999) || !isWithin(what, 0, 1)) {
            return BAD;
        }
        Library then = foretold.behindCenturies(now, n, seed);
        return what == 0 ? then.pagesOfAll() : then.books - Integer.bitCount(then.booksWithPages());
    }

    public int image(int k) {
        if (!isWithin(k, 0, 1)) {
            return BAD;
        }
        if (!now.isTold()) {
            return STATE;
        }
        (k == 0 ? imageZero : imageOne).take(now);
        return 1;
    }

    public int restore(int k) {
        if (!isWithin(k, 0, 1)) {
            return BAD;
        }
        Library kept = k == 0 ? imageZero : imageOne;
        if (!kept.isTold()) {
            return STATE;
        }
        now.take(kept);
        acts.forget();
        return 1;
    }

    // ---- asked

    public int kind(int one) {
        return now.isFish(one) ? now.kindOf[one] : BAD;
    }

    public int as(int one, int kind) {
        if (!now.isFish(one) || !isWithin(kind, 0, SCHOLAR)) {
            return BAD;
        }
        return isKind(now.kindOf[one], kind) ? foundNothing(one) : found(KIND);
    }

    public int ask(int one, int what) {
        if (!now.isFish(one) || !isWithin(what, 0, 1)) {
            return BAD;
        }
        bodies.begin(one, now.kindOf[one], now.at[one], now.dust[one]);
        return what == 0 ? bodies.sizeAsked() : bodies.markAsked();
    }

    public int trace(int i) {
        return bodies.left(i);
    }

    public int count(int what) {
        switch (what) {
            case 0: return rows.standing();
            case 1: return now.books;
            case 2: return now.fishes;
            case 3: return now.night;
            case 4: return now.pagesOfAll();
            case 5: return now.dustOf(0);
            case 6: return acts.kept;
            case 7: return tape.length;
            default: return BAD;
        }
    }

    public int status() {
        return finding;
    }

    private int found(int number) {
        finding = number;
        return FINDINGS - number;
    }

    private int foundNothing(int answer) {
        finding = 0;
        return answer;
    }

    private static boolean isWithin(int n, int least, int most) {
        return n >= least && n <= most;
    }

    private static int bitOf(int bits, int n) {
        return bits >> n & 1;
    }

    private static boolean isKind(int kind, int asked) {
        int each = kind;
        for (int k = 0; k < BROADER_KIND.length; k++) {
            if (each == asked) {
                return true;
            }
            if (!isWithin(each, 0, SCHOLAR)) {
                return false;
            }
            each = BROADER_KIND[each];
        }
        return false;
    }

    private static long power(int base, int exponent) {
        long all = 1;
        for (int k = 0; k < exponent; k++) {
            all *= base;
        }
        return all;
    }

    private static long commonDivisor(long a, long b) {
        long one = a;
        long other = b;
        for (int k = 0; k < 1000 && other != 0; k++) {
            long rest = one % other;
            one = other;
            other = rest;
        }
        return one;
    }

    /** The eight rows of items. */
    static final class Rows {
        static final int MOST_ROWS = 8;
        static final int MOST_ITEMS = 40;
        static final int BYTES = 0, SHORTS = 1, INTS = 2, MISSING = -1;

        private final int[] lanes = new int[MOST_ROWS];
        private final int[] lengths = new int[MOST_ROWS];
        // one array for all rows: nothing is made anew by a call, and no row can be null
        private final int[] items = new int[MOST_ROWS * MOST_ITEMS];
        private int pickedFrom = 0;
        private int picked = 0;

        Rows() {
            for (int r = 0; r < MOST_ROWS; r++) {
                lanes[r] = MISSING;
            }
        }

        static boolean isRow(int row) {
            return row >= 0 && row < MOST_ROWS;
        }

        static boolean isLane(int lane) {
            return lane >= BYTES && lane <= INTS;
        }

        boolean isMissing(int row) {
            return !isRow(row) || lanes[row] == MISSING;
        }

        /** What is found where n items from i on are meant: 0 if they are there. */
        int findingAt(int row, int i, int n) {
            if (isMissing(row)) {
                return NULL;
            }
            // by subtraction, since i + n may be beyond what an int holds
            boolean there = i >= 0 && n >= 0 && n <= lengths[row] && i <= lengths[row] - n;
            return there ? 0 : PLACE;
        }

        int findingOfCopy(int a, int i, int b, int j, int n) {
            if (isMissing(a) || isMissing(b)) {
                return NULL;
            }
            if (lanes[a] != lanes[b]) {
                return STORE;
            }
            int wrong = findingAt(a, i, n);
            return wrong != 0 ? wrong : findingAt(b, j, n);
        }

        void make(int row, int lane, int n) {
            if (!isRow(row)) {
                return;
            }
            lanes[row] = lane;
            lengths[row] = n;
            for (int i = 0; i < MOST_ITEMS; i++) {
                items[row * MOST_ITEMS + i] = 0;
            }
        }

        int put(int row, int i, int v) {
            if (findingAt(row, i, 1) != 0) {
                return 0;
            }
            int fits = lanes[row] == BYTES ? (byte) v : lanes[row] == SHORTS ? (short) v : v;
            items[row * MOST_ITEMS + i] = fits;
            return fits;
        }

        void shift(int a, int i, int b, int j, int n) {
            if (findingOfCopy(a, i, b, j, n) == 0) {
                System.arraycopy(items, a * MOST_ITEMS + i, items, b * MOST_ITEMS + j, n);
            }
        }

        int remove(int row) {
            if (isMissing(row)) {
                return 0;
            }
            lanes[row] = MISSING;
            return lengths[row];
        }

        int standing() {
            int all = 0;
            for (int r = 0; r < MOST_ROWS; r++) {
                all += lanes[r] == MISSING ? 0 : 1;
            }
            return all;
        }

        /** From now on told() tells these n items of a row from i on. */
        void pick(int row, int i, int n) {
            boolean there = findingAt(row, i, n) == 0;
            pickedFrom = there ? row * MOST_ITEMS + i : 0;
            picked = there ? n : 0;
        }

        int howManyTold() {
            return picked;
        }

        int told(int k) {
            return k >= 0 && k < picked ? items[pickedFrom + k] : NONE;
        }
    }

    /** The tape, and how a library is read from it. */
    static final class Tape {
        private static final int MOST_BYTES = 120;
        private static final int MOST_FIGURES = 2;
        private static final int END = -1;
        private static final int CANNOT_STAND = 1, NOT_AS_TOLD = 2, NO_ROOM = 3;

        private final int[] bytes = new int[MOST_BYTES];
        int length = 0;
        int latestFault = 0;
        private int at = 0;
        private int wrongAt = NONE;

        boolean add(int letter) {
            if (length >= MOST_BYTES) {
                return false;
            }
            bytes[length] = letter;
            length++;
            return true;
        }

        /** Empties the tape: the place of the fault, or NONE; what is read is whole only without one. */
        int readInto(Library draft) {
            at = 0;
            wrongAt = NONE;
            draft.clear();
            readLaw(draft);
            readBooks(draft);
            readFish(draft);
            length = 0;
            return wrongAt;
        }

        private void readLaw(Library draft) {
            pass('l');
            draft.hunger = number(1, MOST_HUNGER);
            pass(',');
            draft.lamps = number(0, 8);
            pass(';');
        }

        private void readBooks(Library draft) {
            if (next() != 'b') {
                fail(CANNOT_STAND);
            }
            for (int k = 0; k < MOST_BYTES && next() == 'b'; k++) {
                if (draft.books >= MOST_BOOKS) {
                    fail(NO_ROOM);
                }
                pass('b');
                int pages = number(0, 99);
                pass(',');
                int paste = number(0, MOST_PASTE);
                pass(';');
                if (isFine()) {
                    draft.addBook(pages, paste);
                }
            }
        }

        private void readFish(Library draft) {
            if (kindOfSort(next()) == NONE) {
                fail(CANNOT_STAND);
            }
            for (int k = 0; k < MOST_BYTES && next() != END; k++) {
                int kind = kindOfSort(next());
                if (kind == NONE) {
                    fail(CANNOT_STAND);
                }
                if (draft.fishes >= MOST_FISH) {
                    fail(NO_ROOM);
                }
                pass(next());
                int place = number(0, draft.books - 1);
                pass(';');
                if (isFine()) {
                    draft.addFish(kind, place);
                }
            }
        }

        private static int kindOfSort(int letter) {
            switch (letter) {
                case 'r': return READER;
                case 'p': return POET;
                case 'c': return CRITIC;
                case 'w': return WANDERER;
                case 's': return SCHOLAR;
                default: return NONE;
            }
        }

        private boolean isFine() {
            return wrongAt == NONE;
        }

        /** Only the first fault counts: what is read behind it does nothing. */
        private void fail(int number) {
            if (isFine()) {
                wrongAt = at;
                latestFault = number;
            }
        }

        private int next() {
            return isFine() && at >= 0 && at < length ? bytes[at] : END;
        }

        private void pass(int letter) {
            if (next() == END || next() != letter) {
                fail(CANNOT_STAND);
            } else {
                at++;
            }
        }

        private int number(int least, int most) {
            int run = 0;
            int value = 0;
            int start = at;
            for (int k = 0; k < MOST_BYTES && isFigure(next()); k++) {
                // a longer run is a fault whatever it says, and would not fit an int
                value = run < MOST_FIGURES ? value * 10 + next() - '0' : value;
                run++;
                at++;
            }
            int end = at;
            at = start;
            if (run < 1 || run > MOST_FIGURES) {
                fail(CANNOT_STAND);
            } else if (value < least || value > most) {
                fail(NOT_AS_TOLD);
            } else {
                at = end;
            }
            return value;
        }

        private static boolean isFigure(int letter) {
            return letter >= '0' && letter <= '9';
        }
    }

    /** A library as it is at one time: what an act changes, an image keeps, and a foretelling tries. */
    static final class Library {
        private static final int MOST_DUST = 999;
        // below all that a book can be liked by
        private static final int NOT_LIKED = -1000;

        int books = 0;
        int fishes = 0;
        int hunger = 0;
        int lamps = 0;
        int night = 0;
        int lit = 0;
        int kept = 0;
        int caughtOnes = 0;
        final int[] pages = new int[MOST_BOOKS];
        final int[] pasteOf = new int[MOST_BOOKS];
        final int[] placeOf = new int[MOST_BOOKS];
        private final int[] shelf = new int[MOST_BOOKS];
        final int[] kindOf = new int[MOST_FISH];
        // stays, when a fish is caught, as its mark asks for it
        final int[] at = new int[MOST_FISH];
        final int[] dust = new int[MOST_FISH];
        // books eaten of since this became what it is: no part of what is kept
        final int[] holes = new int[MOST_FISH];

        void clear() {
            books = 0;
            fishes = 0;
            hunger = 0;
            lamps = 0;
            night = 0;
            lit = 0;
            kept = 0;
            caughtOnes = 0;
        }

        void take(Library from) {
            books = from.books;
            fishes = from.fishes;
            hunger = from.hunger;
            lamps = from.lamps;
            night = from.night;
            lit = from.lit;
            kept = from.kept;
            caughtOnes = from.caughtOnes;
            for (int b = 0; b < MOST_BOOKS; b++) {
                pages[b] = from.pages[b];
                pasteOf[b] = from.pasteOf[b];
                placeOf[b] = from.placeOf[b];
                shelf[b] = from.shelf[b];
            }
            for (int f = 0; f < MOST_FISH; f++) {
                kindOf[f] = from.kindOf[f];
                at[f] = from.at[f];
                dust[f] = from.dust[f];
                holes[f] = 0;
            }
        }

        void addBook(int itsPages, int itsPaste) {
            if (books < 0 || books >= MOST_BOOKS) {
                return;
            }
            pages[books] = itsPages;
            pasteOf[books] = itsPaste;
            placeOf[books] = books;
            shelf[books] = books;
            books++;
        }

        void addFish(int kind, int place) {
            if (fishes < 0 || fishes >= MOST_FISH) {
                return;
            }
            kindOf[fishes] = kind;
            at[fishes] = place;
            dust[fishes] = 0;
            fishes++;
        }

        boolean isTold() {
            return books > 0;
        }

        boolean isBook(int book) {
            return book >= 0 && book < books && book < MOST_BOOKS;
        }

        boolean isPlace(int place) {
            return isBook(place);
        }

        boolean isFish(int fish) {
            return fish >= 0 && fish < fishes && fish < MOST_FISH;
        }

        boolean isCaught(int fish) {
            return (caughtOnes >> fish & 1) != 0;
        }

        int bookIn(int place) {
            return isBook(place) ? shelf[place] : NONE;
        }

        void put(int book, int place) {
            if (isBook(book) && isPlace(place)) {
                placeOf[book] = place;
                shelf[place] = book;
            }
        }

        int allBooks() {
            return (1 << books) - 1;
        }

        int fishIn(int place) {
            int bits = 0;
            for (int f = 0; f < fishes && f < MOST_FISH; f++) {
                if (at[f] == place && !isCaught(f)) {
                    bits |= 1 << f;
                }
            }
            return bits;
        }

        int pagesOfAll() {
            return pagesOf(allBooks());
        }

        int pagesOf(int set) {
            int sum = 0;
            for (int b = 0; b < books && b < MOST_BOOKS; b++) {
                sum += (set >> b & 1) != 0 ? pages[b] : 0;
            }
            return sum;
        }

        int booksWithPages() {
            int bits = 0;
            for (int b = 0; b < books && b < MOST_BOOKS; b++) {
                bits |= pages[b] > 0 ? 1 << b : 0;
            }
            return bits;
        }

        int dustOf(int leftOut) {
            int sum = 0;
            for (int f = 0; f < fishes && f < MOST_FISH; f++) {
                sum += (leftOut >> f & 1) != 0 ? 0 : dust[f];
            }
            return sum;
        }

        int gramsOf(int fish, int n) {
            int all = dustOf(caughtOnes);
            if (all <= 0 || !isFish(fish)) {
                return 0;
            }
            int over = n;
            int eaters = 0;
            for (int f = 0; f < fishes && f < MOST_FISH; f++) {
                if (!isCaught(f)) {
                    over -= n * dust[f] / all;
                    eaters += f < fish && dust[f] > 0 ? 1 : 0;
                }
            }
            boolean getsOneMore = dust[fish] > 0 && eaters < over;
            return n * dust[fish] / all + (getsOneMore ? 1 : 0);
        }

        void passNights(int n) {
            for (int k = 0; k < n; k++) {
                passNight();
            }
        }

        void passNight() {
            for (int f = 0; f < fishes && f < MOST_FISH; f++) {
                if (!isCaught(f)) {
                    at[f] = nextPlace(f);
                    eat(f);
                }
            }
            if (night % 4 == 3) {
                dampen();
            }
            night++;
        }

        private void eat(int fish) {
            int book = bookIn(at[fish]);
            if (!isBook(book) || isClosed(book)) {
                return;
            }
            int eaten = Math.min(hunger, pages[book]);
            if (eaten > 0) {
                pages[book] -= eaten;
                dust[fish] = Math.min(dust[fish] + eaten, MOST_DUST);
                holes[fish] |= 1 << book;
            }
        }

        private void dampen() {
            for (int b = 0; b < books && b < MOST_BOOKS; b++) {
                if ((kept >> b & 1) == 0) {
                    pasteOf[b] = Math.min(pasteOf[b] + 1, MOST_PASTE);
                }
            }
        }

        private boolean isClosed(int book) {
            return ((lit | kept) >> book & 1) != 0;
        }

        private int nextPlace(int fish) {
            int place = at[fish];
            int book = bookIn(place);
            if (!isBook(book)) {
                return place;
            }
            int kind = kindOf[fish];
            if (kind == WANDERER) {
                return upFrom(place, 1);
            }
            if (kind == SCHOLAR) {
                return pages[book] == 0 || isClosed(book) ? upFrom(place, 1) : place;
            }
            if (kind == CRITIC && (lit >> book & 1) != 0) {
                return upFrom(place, 2);
            }
            return towards(place, likedPlace(fish));
        }

        private int upFrom(int place, int steps) {
            return books > 0 ? (place + steps) % books : place;
        }

        private static int towards(int place, int liked) {
            if (liked == NONE || liked == place) {
                return place;
            }
            return liked > place ? place + 1 : place - 1;
        }

        int likedPlace(int fish) {
            int kind = kindOf[fish];
            int liked = NONE;
            if (kind == WANDERER || kind == SCHOLAR) {
                return liked;
            }
            int most = NOT_LIKED;
            for (int p = 0; p < books && p < MOST_BOOKS; p++) {
                int book = shelf[p];
                if (!isBook(book) || pages[book] == 0 || isClosed(book)) {
                    continue;
                }
                int away = Math.abs(p - at[fish]);
                int liking = pasteOf[book] * (kind == POET ? 2 : 1) + pages[book] / 10 - away;
                if (liking > most) {
                    most = liking;
                    liked = p;
                }
            }
            return liked;
        }
    }

    /** The acts that can be undone: the library as it was ahead of each. */
    static final class Acts {
        private final Library[] before = new Library[MOST_ACTS];
        private int next = 0;
        int kept = 0;

        Acts() {
            for (int k = 0; k < MOST_ACTS; k++) {
                before[k] = new Library();
            }
        }

        void remember(Library now) {
            Library slot = slotAt(next);
            if (slot == null) {
                return;
            }
            slot.take(now);
            next = (next + 1) % MOST_ACTS;
            kept = Math.min(kept + 1, MOST_ACTS);
        }

        void bringBack(Library now) {
            int latest = (next + MOST_ACTS - 1) % MOST_ACTS;
            Library slot = slotAt(latest);
            if (slot == null || kept == 0) {
                return;
            }
            now.take(slot);
            next = latest;
            kept--;
        }

        void forget() {
            kept = 0;
        }

        private Library slotAt(int k) {
            return k >= 0 && k < MOST_ACTS ? before[k] : null;
        }
    }

    /** What would be: tried on a library of its own, so that the one that stands is left alone. */
    static final class Foretold {
        private final Library then = new Library();
        private final int[] tried = new int[MOST_BOOKS];
        private final int[] best = new int[MOST_BOOKS];

        Library behind(Library now, int n) {
            then.take(now);
            then.passNights(n);
            return then;
        }

        /** Behind how many nights one of a set of books has no pages; NONE. */
        int nightsTillEmpty(Library now, int set) {
            then.take(now);
            for (int n = 0; n <= MOST_AHEAD; n++) {
                if ((set & ~then.booksWithPages()) != 0) {
                    return n;
                }
                then.passNight();
            }
            return NONE;
        }

        /** The least book of a set that has no pages where nightsTillEmpty() ended. */
        int emptyOneOf(int set) {
            int empty = set & ~then.booksWithPages();
            for (int b = 0; b < MOST_BOOKS; b++) {
                if ((empty >> b & 1) != 0) {
                    return b;
                }
            }
            return NONE;
        }

        /** How many pages a set of books has by the best order, which is then in best. */
        int bestOrder(Library now, int set, int n) {
            for (int p = 0; p < MOST_BOOKS; p++) {
                tried[p] = p;
            }
            int most = -1;
            for (int k = 0; k < MOST_ORDERS; k++) {
                then.take(now);
                for (int p = 0; p < MOST_BOOKS; p++) {
                    then.put(tried[p], p);
                }
                then.passNights(n);
                int pages = then.pagesOf(set);
                if (pages > most) {
                    most = pages;
                    System.arraycopy(tried, 0, best, 0, MOST_BOOKS);
                }
                if (!nextOrder(Math.min(now.books, MOST_BOOKS))) {
                    break;
                }
            }
            return most;
        }

        /** The next order by numbers of the first ones that are tried; false: there was none. */
        private boolean nextOrder(int n) {
            int i = n - 2;
            while (i >= 0 && tried[i] > tried[i + 1]) {
                i--;
            }
            if (i < 0) {
                return false;
            }
            int j = n - 1;
            while (j > i && tried[j] < tried[i]) {
                j--;
            }
            swap(i, j);
            for (int low = i + 1, high = n - 1; low < high; low++, high--) {
                swap(low, high);
            }
            return true;
        }

        private void swap(int i, int j) {
            int one = tried[i];
            tried[i] = tried[j];
            tried[j] = one;
        }

        int pagesIfLit(Library now, int set, int book, int n) {
            then.take(now);
            then.lit = set;
            then.passNights(n);
            return then.pages[book];
        }

        /** Sets are tried from the least on, so that of several as good the least stays. */
        int bestLamps(Library now, int book, int n) {
            int best = 0;
            int most = -1;
            for (int set = 0; set <= now.allBooks(); set++) {
                if (Integer.bitCount(set) > now.lamps) {
                    continue;
                }
                int pages = pagesIfLit(now, set, book, n);
                boolean fewer = Integer.bitCount(set) < Integer.bitCount(best);
                if (pages > most || pages == most && fewer) {
                    most = pages;
                    best = set;
                }
            }
            return best;
        }

        int fewestCaught(Library now, int book, int n) {
            int best = (1 << now.fishes) - 1 & ~now.caughtOnes;
            for (int set = 0; set < 1 << now.fishes; set++) {
                boolean isNew = (set & now.caughtOnes) == 0;
                if (isNew && Integer.bitCount(set) < Integer.bitCount(best)) {
                    then.take(now);
                    then.caughtOnes |= set;
                    then.passNights(n);
                    best = then.pages[book] == now.pages[book] ? set : best;
                }
            }
            return best;
        }

        int kindsThatFit(Library now, int fish, int book, Rows rows) {
            int bits = 0;
            for (int kind = READER; kind <= SCHOLAR; kind++) {
                then.take(now);
                then.kindOf[fish] = kind;
                bits |= fits(book, rows) ? 1 << kind : 0;
            }
            return bits;
        }

        int placesThatFit(Library now, int fish, int book, Rows rows) {
            int bits = 0;
            for (int place = 0; place < now.books; place++) {
                then.take(now);
                then.at[fish] = place;
                bits |= fits(book, rows) ? 1 << place : 0;
            }
            return bits;
        }

        int pastesThatFit(Library now, int book, int other, Rows rows) {
            int bits = 0;
            for (int paste = 0; paste <= MOST_PASTE; paste++) {
                then.take(now);
                then.pasteOf[book] = paste;
                bits |= fits(other, rows) ? 1 << paste : 0;
            }
            return bits;
        }

        int hungersThatFit(Library now, int book, Rows rows) {
            int bits = 0;
            for (int hunger = 1; hunger <= MOST_HUNGER; hunger++) {
                then.take(now);
                then.hunger = hunger;
                bits |= fits(book, rows) ? 1 << hunger : 0;
            }
            return bits;
        }

        private boolean fits(int book, Rows rows) {
            for (int k = 0; k < rows.howManyTold(); k++) {
                then.passNight();
                if (then.pages[book] != rows.told(k)) {
                    return false;
                }
            }
            return true;
        }

        /** In how many of 10 by itself for each book that is lit now a book has pages. */
        long casesWithPages(Library now, int book, int n, int p) {
            long cases = 0;
            for (int out = 0; out <= now.allBooks(); out++) {
                if ((out & ~now.lit) != 0) {
                    continue;
                }
                if (pagesIfLit(now, now.lit & ~out, book, n) > 0) {
                    int dark = Integer.bitCount(out);
                    cases += power(p, dark) * power(10 - p, Integer.bitCount(now.lit) - dark);
                }
            }
            return cases;
        }

        Library behindCenturies(Library now, int n, int seed) {
            then.take(now);
            long x = seed;
            for (int k = 0; k < n; k++) {
                x = x * 16807 % 2147483647;
                drawLamp(x);
                then.passNight();
            }
            return then;
        }

        private void drawLamp(long x) {
            if (then.books <= 0) {
                return;
            }
            int lamp = 1 << (int) (x % then.books);
            boolean wasLit = (then.lit & lamp) != 0;
            if (!wasLit && x % 3 == 0 && Integer.bitCount(then.lit) < then.lamps) {
                then.lit |= lamp;
            }
            if (wasLit && x % 5 == 0) {
                then.lit &= ~lamp;
            }
        }
    }

    /** The bodies by which a fish answers what it is asked, and the trace that they leave. */
    static final class Bodies {
        private static final int MOST_LEFT = 16;

        private final int[] numbers = new int[MOST_LEFT];
        private int length = 0;
        private int one = 0;
        private int kindOfOne = 0;
        private int placeOfOne = 0;
        private int dustOfOne = 0;

        void begin(int fish, int itsKind, int itsPlace, int itsDust) {
            length = 0;
            one = fish;
            kindOfOne = itsKind;
            placeOfOne = itsPlace;
            dustOfOne = itsDust;
        }

        int left(int i) {
            return i >= 0 && i < length && i < MOST_LEFT ? numbers[i] : NONE;
        }

        private void leave(int number) {
            if (length >= 0 && length < MOST_LEFT) {
                numbers[length] = number;
                length++;
            }
        }

        int sizeAsked() {
            return isKind(kindOfOne, WANDERER) ? sizeOfWanderer() : sizeOfReader();
        }

        int markAsked() {
            return isKind(kindOfOne, WANDERER) ? markOfWanderer() : markOfReader();
        }

        // A body asks the one of the broader kind for what it gives, so the narrowest begins first. Each family
        // has its own size and mark, as they ask for one another: so no body can come back to itself.

        private int sizeOfReader() {
            boolean isPoet = kindOfOne == POET;
            if (isPoet) {
                leave(12);
            }
            leave(11);
            leave(10);
            int size = dustOfOne + markOfReader();
            return isPoet ? -size : size;
        }

        private int sizeOfWanderer() {
            boolean isScholar = kindOfOne == SCHOLAR;
            if (isScholar) {
                leave(14);
            }
            leave(13);
            leave(10);
            int size = dustOfOne - 100;
            return isScholar ? 2 * size : size;
        }

        private int markOfReader() {
            boolean isPoet = kindOfOne == POET;
            boolean isCritic = kindOfOne == CRITIC;
            if (isPoet) {
                leave(24);
            }
            if (isCritic) {
                leave(22);
            }
            leave(21);
            leave(20);
            int mark = one + placeOfOne;
            if (isPoet) {
                return 2 * mark;
            }
            return isCritic ? mark - 1000 : mark;
        }

        private int markOfWanderer() {
            leave(23);
            leave(20);
            return one - sizeOfWanderer();
        }
    }
}
