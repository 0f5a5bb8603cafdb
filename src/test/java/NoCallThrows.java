import java.lang.reflect.Method;
import java.util.ArrayList;
import java.util.Comparator;
import java.util.List;
import java.util.Random;

/** Whatever the arguments and whatever went ahead, a call ends with an answer, and what is refused changes nothing. */
public final class NoCallThrows {
    private static final int RUNS = 300;
    private static final int CALLS = 512;
    private static final int[] EDGES = {
        Integer.MIN_VALUE, Integer.MIN_VALUE + 1, -1000000, -2, -1, 0, 1, 2, 3, 4, 5, 6, 7, 8, 9, 10, 11, 12, 13,
        16, 24, 25, 31, 32, 39, 40, 41, 60, 61, 63, 64, 255, 256, 999, 1000, 999999, 1000000,
        Integer.MAX_VALUE - 1, Integer.MAX_VALUE};
    private static final String TEXT = "l4,3;b30,5;b60,1;b0,9;b25,7;b90,0;b11,3;r0;p4;c2;w1;s3;";

    public static void main(String[] args) throws Exception {
        List<Method> calls = new ArrayList<>();
        for (Method call : FishReaders.class.getDeclaredMethods()) {
            if (java.lang.reflect.Modifier.isPublic(call.getModifiers())) {
                calls.add(call);
            }
        }
        calls.sort(Comparator.comparing(Method::getName));
        for (int run = 0; run < RUNS; run++) {
            run(new Random(run), calls);
        }
        Due.end();
    }

    private static void run(Random random, List<Method> calls) throws Exception {
        FishReaders x = random.nextInt(4) == 0 ? new FishReaders() : Due.told(TEXT);
        boolean wild = random.nextBoolean();
        for (int k = 0; k < CALLS; k++) {
            Method call = calls.get(random.nextInt(calls.size()));
            Object[] with = new Object[call.getParameterCount()];
            for (int i = 0; i < with.length; i++) {
                with[i] = wild ? EDGES[random.nextInt(EDGES.length)] : random.nextInt(9) - 1;
            }
            String ahead = stands(x);
            long answer = ((Number) call.invoke(x, with)).longValue();
            // a fault empties the tape
            boolean refused = answer < FishReaders.NONE && !call.getName().equals("library");
            if (refused && !ahead.equals(stands(x))) {
                Due.due(call.getName() + " was refused, and changed what stands", 1, 0);
            }
        }
    }

    private static String stands(FishReaders x) {
        StringBuilder all = new StringBuilder();
        for (int what = 0; what < 8; what++) {
            all.append(x.count(what)).append(' ').append(x.stand(what)).append(' ');
        }
        for (int b = 0; b < 6; b++) {
            for (int what = 0; what < 6; what++) {
                all.append(x.book(b, what)).append(' ').append(x.fish(b, what)).append(' ');
            }
        }
        for (int i = 0; i < 16; i++) {
            all.append(x.trace(i)).append(' ');
        }
        return all.append(x.fault()).toString();
    }
}
