import java.util.ArrayList;
import java.util.List;
import java.util.Random;

/** Random libraries with random acts: all that is told and foretold is as the model says. */
public final class ForetoldLikeTheModel {
    private static final int RUNS = 400;

    private final Random random;
    private final FishReaders x = new FishReaders();
    private final Model model = new Model();
    private final String name;

    private ForetoldLikeTheModel(int run) {
        random = new Random(run);
        name = "run " + run + ": ";
    }

    public static void main(String[] args) {
        for (int run = 0; run < RUNS; run++) {
            ForetoldLikeTheModel one = new ForetoldLikeTheModel(run);
            one.tell();
            for (int k = 0; k < 3; k++) {
                one.act();
                one.compareWhatStands();
            }
            one.compareBooksAhead();
            one.compareFishAhead();
            one.compareBest();
            one.compareWhatFits();
            one.compareChances();
            one.compareAsks();
        }
        Due.end();
    }

    private int any(int below) {
        return random.nextInt(below);
    }

    private void due(String call, long got, long want) {
        Due.due(name + call, got, want);
    }

    private void tell() {
        model.hunger = 1 + any(9);
        model.lamps = any(9);
        StringBuilder text = new StringBuilder("l" + model.hunger + "," + model.lamps + ";");
        int books = 1 + any(6);
        boolean thin = any(2) == 0;
        for (int b = 0; b < books; b++) {
            Model.Book book = new Model.Book(any(5) == 0 ? 0 : any(thin ? 30 : 100), any(10));
            model.books.add(book);
            model.shelf.add(book);
            text.append("b" + book.pages + "," + book.paste + ";");
        }
        int fish = 1 + any(5);
        for (int f = 0; f < fish; f++) {
            Model.Fish one = new Model.Fish(1 + any(5), any(books));
            model.fish.add(one);
            text.append(Model.SORTS.charAt(one.kind) + "" + one.at + ";");
        }
        Due.feed(x, text.toString());
        due("library()", x.library(), fish);
    }

    private void act() {
        for (int k = 0; k < 5; k++) {
            int b = any(model.books.size());
            int other = any(model.books.size());
            Model.Book book = model.books.get(b);
            Model.Fish fish = model.fish.get(any(model.fish.size()));
            switch (any(6)) {
                case 0:
                    if (x.light(b, 1) >= 0) {
                        book.lit = true;
                    }
                    break;
                case 1:
                    if (any(3) == 0 && x.keepIt(b, book.kept ? 0 : 1) >= 0) {
                        book.kept = !book.kept;
                    }
                    break;
                case 2:
                    if (x.change(b, other) >= 0) {
                        java.util.Collections.swap(model.shelf, model.shelf.indexOf(book),
                                model.shelf.indexOf(model.books.get(other)));
                    }
                    break;
                case 3:
                    if (x.move(model.fish.indexOf(fish), other) >= 0) {
                        fish.at = other;
                    }
                    break;
                case 4:
                    if (any(4) == 0 && x.catchIt(model.fish.indexOf(fish)) >= 0) {
                        fish.caught = true;
                    }
                    break;
                default:
                    model.night();
                    due("nights(1)", x.nights(1), model.pages(63));
                    break;
            }
        }
    }

    private void compareWhatStands() {
        int dust = 0;
        for (int b = 0; b < model.books.size(); b++) {
            Model.Book book = model.books.get(b);
            due("PAGES", x.book(b, 0), book.pages);
            due("PASTE", x.book(b, 1), book.paste);
            due("PLACE", x.book(b, 2), model.shelf.indexOf(book));
            due("LIT", x.book(b, 3), book.lit ? 1 : 0);
            due("KEPT", x.book(b, 4), book.kept ? 1 : 0);
        }
        for (int f = 0; f < model.fish.size(); f++) {
            Model.Fish fish = model.fish.get(f);
            int liked = model.liked(fish);
            dust += fish.dust;
            due("FISH's PLACE", x.fish(f, 0), fish.caught ? Due.NONE : fish.at);
            due("DUST", x.fish(f, 1), fish.dust);
            due("LIKED", x.fish(f, 2), fish.caught || liked < 0 ? Due.NONE : liked);
        }
        due("NIGHT", x.count(3), model.night);
        due("PAGES of all", x.count(4), model.pages(63));
        due("DUST of all", x.count(5), dust);
    }

    private void compareBooksAhead() {
        int n = any(61);
        Model then = model.after(n);
        for (int b = 0; b < model.books.size(); b++) {
            due("ahead, PAGES", x.ahead(b, n, 0), then.books.get(b).pages);
            due("ahead, PASTE", x.ahead(b, n, 1), then.books.get(b).paste);
            due("when", x.when(b), model.when(b));
        }
        int[] first = model.first();
        due("first, which", x.first(0), first[0]);
        due("first, when", x.first(1), first[1]);
    }

    private void compareFishAhead() {
        int n = any(61);
        Model then = model.after(n);
        int grams = any(1000);
        for (int f = 0; f < model.fish.size(); f++) {
            Model.Fish fish = then.fish.get(f);
            due("later, PLACE", x.later(f, n, 0), fish.caught ? Due.NONE : fish.at);
            due("later, DUST", x.later(f, n, 1), fish.dust);
            due("hole", x.hole(f, n), fish.hole);
            due("grams", x.grams(f, grams), model.grams(grams)[f]);
        }
    }

    private void compareBest() {
        int n = 1 + any(12);
        int set = any(1 << model.books.size());
        int[] order = model.order(set, n);
        for (int p = -1; p < model.books.size(); p++) {
            due("order, " + p, x.order(set, n, p), order[p + 1]);
        }
        int b = any(model.books.size());
        int nights = 1 + any(60);
        due("lamp, PAGES", x.lamp(b, nights, 0), model.lamp(b, nights)[0]);
        due("lamp, which", x.lamp(b, nights, 1), model.lamp(b, nights)[1]);
        int caught = model.caught(b, nights);
        due("caught, how many", x.caught(b, nights, 0), Integer.bitCount(caught));
        due("caught, which", x.caught(b, nights, 1), caught);
    }

    private void compareWhatFits() {
        int n = 1 + any(3) * any(4);
        int b = any(model.books.size());
        int other = any(model.books.size());
        int f = any(model.fish.size());
        Model told = model.copy();
        changeOne(told, f, other);
        int[] pages = new int[n];
        for (int k = 0; k < n; k++) {
            pages[k] = told.after(k + 1).books.get(b).pages;
        }
        Due.tell(x, 3, pages);
        compareFishThatFits(f, b, pages);
        int pastes = 0;
        for (int v = 0; v < 10; v++) {
            Model m = model.copy();
            m.books.get(other).paste = v;
            pastes |= m.fits(b, pages) ? 1 << v : 0;
        }
        due("paste", x.paste(other, b, 3, 0, n), pastes);
        int hungers = 0;
        for (int v = 1; v < 10; v++) {
            Model m = model.copy();
            m.hunger = v;
            hungers |= m.fits(b, pages) ? 1 << v : 0;
        }
        due("hungers", x.hungers(b, 3, 0, n), hungers);
    }

    private void changeOne(Model told, int f, int book) {
        switch (any(5)) {
            case 0: told.fish.get(f).kind = 1 + any(5); break;
            case 1: told.fish.get(f).at = any(told.books.size()); break;
            case 2: told.books.get(book).paste = any(10); break;
            case 3: told.hunger = 1 + any(9); break;
            default: break;
        }
    }

    private void compareFishThatFits(int f, int b, int[] pages) {
        int kinds = 0;
        int places = 0;
        for (int v = 1; v < 6; v++) {
            Model m = model.copy();
            m.fish.get(f).kind = v;
            kinds |= m.fits(b, pages) ? 1 << v : 0;
        }
        for (int v = 0; v < model.books.size(); v++) {
            Model m = model.copy();
            m.fish.get(f).at = v;
            places |= m.fits(b, pages) ? 1 << v : 0;
        }
        boolean caught = model.fish.get(f).caught;
        due("who, KINDS", x.who(f, 0, b, 3, 0, pages.length), caught ? Due.STATE : kinds);
        due("who, PLACES", x.who(f, 1, b, 3, 0, pages.length), caught ? Due.STATE : places);
    }

    private void compareChances() {
        int b = any(model.books.size());
        int n = any(61);
        int p = any(11);
        long[] dark = model.dark(b, n, p);
        due("dark, above", x.dark(b, n, p, 0), dark[0]);
        due("dark, below", x.dark(b, n, p, 1), dark[1]);
        int seed = 1 + any(999999);
        Model then = model.drawn(n, seed);
        due("drawn, PAGES", x.drawn(n, seed, 0), then.pages(63));
        due("drawn, none", x.drawn(n, seed, 1), then.empty());
    }

    private void compareAsks() {
        for (int f = 0; f < model.fish.size(); f++) {
            for (int what = 0; what < 2; what++) {
                List<Integer> trace = new ArrayList<>();
                due("ask", x.ask(f, what), model.ask(f, what, trace));
                for (int i = 0; i < 8; i++) {
                    due("trace", x.trace(i), i < trace.size() ? trace.get(i) : Due.NONE);
                }
            }
        }
    }
}
