import java.math.BigInteger;
import java.util.ArrayList;
import java.util.List;

/** The library once more, written from the document in another way: by objects, lists and big numbers. */
final class Model {
    static final String SORTS = "?rpcws";

    static final class Book {
        int pages;
        int paste;
        boolean lit;
        boolean kept;

        Book(int pages, int paste) {
            this.pages = pages;
            this.paste = paste;
        }

        boolean open() {
            return !lit && !kept;
        }
    }

    static final class Fish {
        int kind;
        int at;
        int dust;
        boolean caught;
        int hole;

        Fish(int kind, int at) {
            this.kind = kind;
            this.at = at;
        }
    }

    final List<Book> books = new ArrayList<>();
    List<Book> shelf = new ArrayList<>();
    final List<Fish> fish = new ArrayList<>();
    int hunger;
    int lamps;
    int night;

    Model copy() {
        Model m = new Model();
        m.hunger = hunger;
        m.lamps = lamps;
        m.night = night;
        for (Book b : books) {
            Book c = new Book(b.pages, b.paste);
            c.lit = b.lit;
            c.kept = b.kept;
            m.books.add(c);
        }
        for (Book b : shelf) {
            m.shelf.add(m.books.get(books.indexOf(b)));
        }
        for (Fish f : fish) {
            Fish g = new Fish(f.kind, f.at);
            g.dust = f.dust;
            g.caught = f.caught;
            m.fish.add(g);
        }
        return m;
    }

    Model after(int n) {
        Model m = copy();
        for (int k = 0; k < n; k++) {
            m.night();
        }
        return m;
    }

    int liked(Fish f) {
        int best = -1;
        int most = Integer.MIN_VALUE;
        for (int p = shelf.size() - 1; p >= 0; p--) {
            Book b = shelf.get(p);
            if (b.open() && b.pages > 0) {
                int liking = (f.kind == 2 ? 2 : 1) * b.paste + b.pages / 10 - Math.abs(p - f.at);
                if (liking >= most) {
                    most = liking;
                    best = p;
                }
            }
        }
        return f.kind > 3 ? -1 : best;
    }

    private void go(Fish f) {
        Book here = shelf.get(f.at);
        int all = shelf.size();
        if (f.kind == 4 || f.kind == 5 && (here.pages == 0 || !here.open())) {
            f.at = f.at == all - 1 ? 0 : f.at + 1;
        } else if (f.kind == 3 && here.lit) {
            for (int k = 0; k < 2; k++) {
                f.at = f.at == all - 1 ? 0 : f.at + 1;
            }
        } else if (f.kind <= 3 && liked(f) >= 0) {
            f.at += Integer.signum(liked(f) - f.at);
        }
    }

    void night() {
        for (Fish f : fish) {
            if (f.caught) {
                continue;
            }
            go(f);
            Book b = shelf.get(f.at);
            int eaten = b.open() ? Math.min(b.pages, hunger) : 0;
            b.pages -= eaten;
            f.dust = Math.min(999, f.dust + eaten);
            f.hole |= eaten > 0 ? 1 << books.indexOf(b) : 0;
        }
        for (Book b : books) {
            if (night % 4 == 3 && !b.kept && b.paste < 9) {
                b.paste++;
            }
        }
        night++;
    }

    int pages(int set) {
        int sum = 0;
        for (int b = 0; b < books.size(); b++) {
            sum += (set >> b & 1) * books.get(b).pages;
        }
        return sum;
    }

    int empty() {
        int n = 0;
        for (Book b : books) {
            n += b.pages == 0 ? 1 : 0;
        }
        return n;
    }

    int when(int book) {
        for (int n = 0; n <= 60; n++) {
            if (after(n).books.get(book).pages == 0) {
                return n;
            }
        }
        return Due.NONE;
    }

    /** The book, and behind how many nights. */
    int[] first() {
        int[] first = {Due.NONE, Due.NONE};
        for (int b = books.size() - 1; b >= 0; b--) {
            int when = when(b);
            if (books.get(b).pages > 0 && when >= 0 && (first[1] < 0 || when <= first[1])) {
                first[0] = b;
                first[1] = when;
            }
        }
        return first;
    }

    /** How many pages, then the book in each place. */
    int[] order(int set, int n) {
        int[] best = new int[books.size() + 1];
        best[0] = -1;
        order(set, n, new ArrayList<>(), best);
        return best;
    }

    private void order(int set, int n, List<Integer> chosen, int[] best) {
        if (chosen.size() < books.size()) {
            for (int b = 0; b < books.size(); b++) {
                if (!chosen.contains(b)) {
                    List<Integer> more = new ArrayList<>(chosen);
                    more.add(b);
                    order(set, n, more, best);
                }
            }
            return;
        }
        Model m = copy();
        m.shelf = new ArrayList<>();
        for (int b : chosen) {
            m.shelf.add(m.books.get(b));
        }
        int pages = m.after(n).pages(set);
        if (pages > best[0]) {
            best[0] = pages;
            for (int p = 0; p < chosen.size(); p++) {
                best[p + 1] = chosen.get(p);
            }
        }
    }

    Model lit(int set) {
        Model m = copy();
        for (int b = 0; b < books.size(); b++) {
            m.books.get(b).lit = (set >> b & 1) == 1;
        }
        return m;
    }

    /** How many pages, and which lamps. */
    int[] lamp(int book, int n) {
        int[] best = {-1, 0};
        for (int many = 0; many <= lamps; many++) {
            for (int set = 0; set < 1 << books.size(); set++) {
                if (Integer.bitCount(set) == many && lit(set).after(n).books.get(book).pages > best[0]) {
                    best[0] = lit(set).after(n).books.get(book).pages;
                    best[1] = set;
                }
            }
        }
        return best;
    }

    int caught(int book, int n) {
        for (int many = 0; many <= fish.size(); many++) {
            for (int set = 0; set < 1 << fish.size(); set++) {
                if (Integer.bitCount(set) != many) {
                    continue;
                }
                Model m = copy();
                for (int f = 0; f < fish.size(); f++) {
                    m.fish.get(f).caught |= (set >> f & 1) == 1;
                }
                if (m.after(n).books.get(book).pages == books.get(book).pages) {
                    return set;
                }
            }
        }
        return -1;
    }

    int[] grams(int n) {
        int[] grams = new int[fish.size()];
        int all = 0;
        for (Fish f : fish) {
            all += f.caught ? 0 : f.dust;
        }
        if (all == 0) {
            return grams;
        }
        int over = n;
        for (int f = 0; f < grams.length; f++) {
            grams[f] = fish.get(f).caught ? 0 : n * fish.get(f).dust / all;
            over -= grams[f];
        }
        for (int f = 0; f < grams.length; f++) {
            if (over > 0 && !fish.get(f).caught && fish.get(f).dust > 0) {
                grams[f]++;
                over--;
            }
        }
        return grams;
    }

    boolean fits(int book, int[] told) {
        for (int k = 0; k < told.length; k++) {
            if (after(k + 1).books.get(book).pages != told[k]) {
                return false;
            }
        }
        return true;
    }

    /** Above and below. */
    long[] dark(int book, int n, int p) {
        BigInteger above = BigInteger.ZERO;
        BigInteger below = BigInteger.ONE;
        List<Integer> lit = new ArrayList<>();
        for (int b = 0; b < books.size(); b++) {
            if (books.get(b).lit) {
                lit.add(b);
                below = below.multiply(BigInteger.TEN);
            }
        }
        for (int out = 0; out < 1 << lit.size(); out++) {
            Model m = copy();
            BigInteger cases = BigInteger.ONE;
            for (int k = 0; k < lit.size(); k++) {
                boolean goesOut = (out >> k & 1) == 1;
                m.books.get(lit.get(k)).lit = !goesOut;
                cases = cases.multiply(BigInteger.valueOf(goesOut ? p : 10 - p));
            }
            if (m.after(n).books.get(book).pages > 0) {
                above = above.add(cases);
            }
        }
        BigInteger common = above.gcd(below);
        return new long[] {above.divide(common).longValueExact(), below.divide(common).longValueExact()};
    }

    Model drawn(int n, int seed) {
        Model m = copy();
        long x = seed;
        for (int k = 0; k < n; k++) {
            x = x * 16807 % Integer.MAX_VALUE;
            int lit = 0;
            for (Book b : m.books) {
                lit += b.lit ? 1 : 0;
            }
            Book b = m.books.get((int) (x % m.books.size()));
            if (b.lit) {
                b.lit = x % 5 != 0;
            } else {
                b.lit = x % 3 == 0 && lit < lamps;
            }
            m.night();
        }
        return m;
    }

    /** Size and mark of a fish; what begins is added to the trace. */
    int ask(int one, int what, List<Integer> trace) {
        return what == 0 ? size(one, fish.get(one).kind, trace) : mark(one, fish.get(one).kind, trace);
    }

    private int size(int one, int as, List<Integer> trace) {
        int kind = fish.get(one).kind;
        trace.add(new int[] {10, 11, 12, 11, 13, 14}[as]);
        switch (as) {
            case 0: return fish.get(one).dust;
            case 1:
            case 3: return size(one, 0, trace) + mark(one, kind, trace);
            case 2: return 0 - size(one, 1, trace);
            case 4: return size(one, 0, trace) - 100;
            default: return 2 * size(one, 4, trace);
        }
    }

    private int mark(int one, int as, List<Integer> trace) {
        int kind = fish.get(one).kind;
        trace.add(new int[] {20, 21, 24, 22, 23, 23}[as]);
        switch (as) {
            case 0: return one;
            case 1: return mark(one, 0, trace) + fish.get(one).at;
            case 2: return 2 * mark(one, 1, trace);
            case 3: return mark(one, 1, trace) - 1000;
            default: return mark(one, 0, trace) - size(one, kind, trace);
        }
    }
}
