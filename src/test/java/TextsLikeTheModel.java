import java.util.ArrayList;
import java.util.List;
import java.util.Random;
import java.util.regex.Matcher;
import java.util.regex.Pattern;

/** Promises 7 and 8: random texts, right and almost right, are read as a reader by tokens and states reads them. */
public final class TextsLikeTheModel {
    private static final int RUNS = 20000;
    private static final Pattern TOKEN = Pattern.compile("[0-9]+|(?s).");
    private static final String ODD = "lbrpcws0123456789,;,;00 xA-";

    /** What is to stand next. */
    private enum State {
        LAW, HUNGER, LAW_COMMA, LAMPS, LAW_END, BOOK, PAGES, COMMA, PASTE, BOOK_END, NEXT, AT, END, FISH
    }

    private final List<int[]> books = new ArrayList<>();
    private final List<int[]> fish = new ArrayList<>();
    private int hunger;
    private int lamps;
    private State state = State.LAW;

    public static void main(String[] args) {
        int right = 0;
        for (int run = 0; run < RUNS; run++) {
            right += compare(text(new Random(run))) ? 1 : 0;
        }
        Due.due("some texts are right, and some are not: " + right, right > 500 && right < RUNS - 500 ? 1 : 0, 1);
        Due.end();
    }

    private static String text(Random random) {
        StringBuilder text = new StringBuilder("l" + random.nextInt(11) + "," + random.nextInt(10) + ";");
        int books = 1 + random.nextInt(7);
        for (int b = 0; b < books; b++) {
            text.append("b" + random.nextInt(100) + "," + random.nextInt(random.nextInt(5) == 0 ? 11 : 10) + ";");
        }
        for (int f = 1 + random.nextInt(6); f > 0; f--) {
            int places = random.nextInt(9) == 0 ? 7 : books;
            text.append("rpcws".charAt(random.nextInt(5)) + "" + random.nextInt(places) + ";");
        }
        for (int k = random.nextInt(3); k > 0; k--) {
            int at = random.nextInt(text.length());
            switch (random.nextInt(4)) {
                case 0 -> text.setCharAt(at, ODD.charAt(random.nextInt(ODD.length())));
                case 1 -> text.insert(at, ODD.charAt(random.nextInt(ODD.length())));
                case 2 -> text.deleteCharAt(at);
                default -> text.setLength(at + 1);
            }
        }
        return text.toString();
    }

    private static boolean compare(String text) {
        TextsLikeTheModel model = new TextsLikeTheModel();
        int[] fault = model.read(text);
        FishReaders x = new FishReaders();
        Due.feed(x, text);
        int answer = x.library();
        Due.due("library() of '" + text + "'", answer, fault == null ? model.fish.size() : -1000100 - fault[0]);
        Due.due("fault() of '" + text + "'", x.fault(), fault == null ? 0 : fault[1]);
        Due.due("books of '" + text + "'", x.count(1), fault == null ? model.books.size() : 0);
        if (fault == null) {
            model.compareLibrary(x);
        }
        return fault == null;
    }

    private void compareLibrary(FishReaders x) {
        Due.due("HUNGER", x.stand(4), hunger);
        Due.due("LAMPS", x.stand(5), lamps);
        for (int b = 0; b < books.size(); b++) {
            Due.due("PAGES", x.book(b, 0), books.get(b)[0]);
            Due.due("PASTE", x.book(b, 1), books.get(b)[1]);
        }
        for (int f = 0; f < fish.size(); f++) {
            Due.due("KIND", x.kind(f), fish.get(f)[0]);
            Due.due("AT", x.fish(f, 0), fish.get(f)[1]);
        }
    }

    /** The place of the first fault, and its number; null: there is none. */
    private int[] read(String text) {
        Matcher token = TOKEN.matcher(text);
        while (token.find()) {
            int number = step(token.group());
            if (number != 0) {
                return new int[] {token.start(), number};
            }
        }
        return state == State.FISH ? null : new int[] {text.length(), 1};
    }

    private int step(String token) {
        switch (state) {
            case LAW: return sign(token, "l", State.HUNGER);
            case HUNGER: return number(token, 1, 9, State.LAW_COMMA);
            case LAW_COMMA: return sign(token, ",", State.LAMPS);
            case LAMPS: return number(token, 0, 8, State.LAW_END);
            case LAW_END: return sign(token, ";", State.BOOK);
            case BOOK: return token.equals("b") ? book() : 1;
            case PAGES: return number(token, 0, 99, State.COMMA);
            case COMMA: return sign(token, ",", State.PASTE);
            case PASTE: return number(token, 0, 9, State.BOOK_END);
            case BOOK_END: return sign(token, ";", State.NEXT);
            case NEXT: return token.equals("b") ? book() : fish(token);
            case AT: return number(token, 0, books.size() - 1, State.END);
            case END: return sign(token, ";", State.FISH);
            default: return fish(token);
        }
    }

    private int sign(String token, String due, State next) {
        if (!token.equals(due)) {
            return 1;
        }
        state = next;
        return 0;
    }

    private int number(String token, int least, int most, State next) {
        if (!token.matches("[0-9]{1,2}")) {
            return 1;
        }
        int value = Integer.parseInt(token);
        if (value < least || value > most) {
            return 2;
        }
        switch (state) {
            case HUNGER -> hunger = value;
            case LAMPS -> lamps = value;
            case PAGES -> books.get(books.size() - 1)[0] = value;
            case PASTE -> books.get(books.size() - 1)[1] = value;
            default -> fish.get(fish.size() - 1)[1] = value;
        }
        state = next;
        return 0;
    }

    private int book() {
        if (books.size() == 6) {
            return 3;
        }
        books.add(new int[2]);
        state = State.PAGES;
        return 0;
    }

    private int fish(String token) {
        int kind = "rpcws".indexOf(token);
        if (token.length() != 1 || kind < 0) {
            return 1;
        }
        if (fish.size() == 5) {
            return 3;
        }
        fish.add(new int[] {kind + 1, 0});
        state = State.AT;
        return 0;
    }
}
