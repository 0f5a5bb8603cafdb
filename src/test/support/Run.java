import java.lang.reflect.Method;
import java.lang.reflect.Modifier;
import java.util.ArrayList;
import java.util.HashMap;
import java.util.List;
import java.util.Map;

/** A new object and the calls on it, each told as one writes it: due("row(0, 2, 40)", 40). */
final class Run {
    private static final int MOST_CALLS = 512;
    private static final Map<String, Method> FACE = face();

    private record Call(String text, Method method, Object[] with) {
    }

    private final FishReaders x = new FishReaders();
    private final List<Call> calls = new ArrayList<>();

    private static Map<String, Method> face() {
        Map<String, Method> face = new HashMap<>();
        for (Method m : FishReaders.class.getDeclaredMethods()) {
            if (Modifier.isPublic(m.getModifiers())) {
                face.put(m.getName(), m);
            }
        }
        return face;
    }

    private static Call parse(String text) {
        int open = text.indexOf('(');
        Method method = FACE.get(text.substring(0, open));
        String inner = text.substring(open + 1, text.length() - 1).trim();
        String[] numbers = inner.isEmpty() ? new String[0] : inner.split(", *");
        Object[] with = new Object[numbers.length];
        for (int k = 0; k < with.length; k++) {
            with[k] = number(numbers[k]);
        }
        return new Call(text, method, with);
    }

    private static int number(String text) {
        return switch (text) {
            case "MOST" -> Integer.MAX_VALUE;
            case "LEAST" -> Integer.MIN_VALUE;
            default -> Integer.parseInt(text);
        };
    }

    private long answer(Call call) {
        if (calls.size() >= MOST_CALLS) {
            throw new IllegalStateException("an object is used for 512 calls at most");
        }
        calls.add(call);
        try {
            return ((Number) call.method().invoke(x, call.with())).longValue();
        } catch (ReflectiveOperationException e) {
            throw new IllegalStateException(call.text() + " threw", e);
        }
    }

    private long answer(String call) {
        return answer(parse(call));
    }

    /** What a call answers that a test compares by itself. */
    long answers(String call) {
        return answer(call);
    }

    /** A call of which the answer does not matter. */
    Run does(String... more) {
        for (String call : more) {
            answer(call);
        }
        return this;
    }

    Run due(String call, long want) {
        Due.due(call, answer(call), want);
        return this;
    }

    Run feed(String text) {
        for (char letter : text.toCharArray()) {
            answer("feed(" + (int) letter + ")");
        }
        return this;
    }

    /** Tells a library that is read without a fault. */
    Run told(String text) {
        feed(text);
        long fish = answer("library()");
        Due.due("library() of '" + text + "' has fish", fish > 0 ? 1 : fish, 1);
        return this;
    }

    /** Makes a row of ints with these items. */
    Run tell(int row, int... items) {
        answer("row(" + row + ", 2, " + items.length + ")");
        for (int i = 0; i < items.length; i++) {
            answer("set(" + row + ", " + i + ", " + items[i] + ")");
        }
        return this;
    }

    /** Another object on which the same was called, to be called on apart from this one. */
    Run twin() {
        Run twin = new Run();
        for (Call call : calls) {
            twin.answer(call);
        }
        return twin;
    }

    /** The call answers this, and again, and nothing else becomes another but status(); a twin is called, not this. */
    Run tells(String call, long want) {
        Run asked = twin();
        Run notAsked = twin();
        asked.due(call, want).due(call, want);
        long status = statusBehind(call, want, notAsked.answer("status()"));
        Due.due("status() behind " + call, asked.answer("status()"), status);
        sameIsSeen(call, asked, notAsked);
        return this;
    }

    private static long statusBehind(String call, long answer, long ahead) {
        boolean told = call.matches("(row|set|copy|drop|who|paste|hungers|as)\\(.*");
        boolean refused = answer == Due.BAD || answer == Due.STATE || answer == Due.FULL;
        if (!told || refused) {
            return ahead;
        }
        return answer <= Due.NULL && answer >= Due.STORE ? Due.NULL + 1 - answer : 0;
    }

    /** A text that is fed behind what stands is refused there, and only the tape and fault() become others. */
    Run isFaulty(String text, int place, int number) {
        Run asked = twin();
        Run notAsked = twin();
        asked.feed(text);
        asked.due("library()", -1000100 - place);
        Due.due("fault() of '" + text + "'", asked.answer("fault()"), number);
        Due.due("status() behind '" + text + "'", asked.answer("status()"), notAsked.answer("status()"));
        sameIsSeen("library() of '" + text + "'", asked, notAsked);
        return this;
    }

    private static void sameIsSeen(String call, Run asked, Run notAsked) {
        List<String> seen = asked.allThatIsSeen();
        List<String> due = notAsked.allThatIsSeen();
        for (int k = 0; k < Math.min(seen.size(), due.size()); k++) {
            if (!seen.get(k).equals(due.get(k))) {
                Due.due("behind " + call + " one sees '" + seen.get(k) + "', due is '" + due.get(k) + "'", 1, 0);
                return;
            }
        }
        Due.due("behind " + call + ": how much one sees", seen.size(), due.size());
    }

    /** All that can be seen, for the price of the object: its acts are undone, its rows dropped. */
    private List<String> allThatIsSeen() {
        List<String> seen = new ArrayList<>();
        for (int k = 0; k < 8; k++) {
            see(seen, "count(" + k + ")");
            see(seen, "trace(" + k + ")");
        }
        seeTheLibrary(seen);
        for (int k = 0; k < 6 && see(seen, "undo()") >= 0; k++) {
            seeTheLibrary(seen);
        }
        for (int k = 0; k < 2; k++) {
            if (see(seen, "restore(" + k + ")") >= 0) {
                seeTheLibrary(seen);
            }
        }
        seeTheTape(seen);
        seeTheRows(seen);
        return seen;
    }

    private long see(List<String> seen, String call) {
        long answer = answer(call);
        seen.add(call + " = " + answer);
        return answer;
    }

    private void seeTheLibrary(List<String> seen) {
        long books = see(seen, "count(1)");
        long fish = see(seen, "count(2)");
        see(seen, "count(3)");
        for (int k = 0; k < 6; k++) {
            see(seen, "stand(" + k + ")");
        }
        for (int b = 0; b < books; b++) {
            for (int what = 0; what < 3; what++) {
                see(seen, "book(" + b + ", " + what + ")");
            }
        }
        for (int f = 0; f < fish; f++) {
            see(seen, "kind(" + f + ")");
            see(seen, "fish(" + f + ", 0)");
            see(seen, "fish(" + f + ", 1)");
        }
    }

    /** used() leaves the tape within a library, so that its bytes are seen by what is read. */
    private void seeTheTape(List<String> seen) {
        feed("9,9;w0;");
        see(seen, "library()");
        see(seen, "stand(4)");
        see(seen, "stand(5)");
    }

    /** An item is seen by what it fits: used() has items of 9, and of 0. */
    private void seeTheRows(List<String> seen) {
        told("l1,1;b9,0;w0;");
        answer("keepIt(0, 1)");
        for (int r = 0; r < 8; r++) {
            for (int i : new int[] {0, 1, 2, 39}) {
                see(seen, "hungers(0, " + r + ", " + i + ", 1)");
            }
            see(seen, "set(" + r + ", 0, 70000)");
            see(seen, "drop(" + r + ")");
        }
    }

    /** A row has these items (0 to 99), as a book has pages that nothing can eat; none is changed here. */
    Run itemsAre(int row, int... items) {
        for (int i = 0; i < items.length; i++) {
            Run twin = twin();
            twin.answer("library()");
            twin.told("l1,1;b" + items[i] + ",0;w0;");
            twin.answer("keepIt(0, 1)");
            long fits = twin.answer("hungers(0, " + row + ", " + i + ", 1)");
            Due.due("item " + i + " of row " + row + " is " + items[i] + ": hungers that fit", fits, 1022);
        }
        Due.due("items of row " + row, twin().answer("drop(" + row + ")"), items.length);
        return this;
    }
}
