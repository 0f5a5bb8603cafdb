import java.nio.file.Files;
import java.nio.file.Path;
import java.util.regex.Matcher;
import java.util.regex.Pattern;

/** README.md says of each call what it answers, and how the tests are run: so it is. */
public final class ReadmeExample {
    private static final Pattern TEXT = Pattern.compile("\"([^\"]+)\"\\.toCharArray\\(\\)");
    private static final Pattern CALL = Pattern.compile("(?m)^x\\.(\\w+\\([^)]*\\)); *// (-?\\d+)(?!\\d)");
    private static final Pattern NAME = Pattern.compile("`(\\w+)`");

    public static void main(String[] args) throws Exception {
        String readme = Files.readString(Path.of("README.md"));
        theExampleAnswersAsItSays(readme);
        eachCallIsNamed(readme);
        eachTestIsThere(readme);
        Due.end();
    }

    private static void theExampleAnswersAsItSays(String readme) {
        Run x = new Run();
        Matcher text = TEXT.matcher(readme);
        Due.due("README.md tells a library", text.find() ? 1 : 0, 1);
        x.feed(text.group(1));
        Matcher call = CALL.matcher(readme);
        int calls = 0;
        while (call.find()) {
            x.due(call.group(1), Integer.parseInt(call.group(2)));
            calls++;
        }
        int lines = readme.split("\nx\\.", -1).length - 1;
        Due.due("calls of README.md with an answer", calls, lines);
        Due.due("README.md calls something", calls > 0 ? 1 : 0, 1);
    }

    private static void eachCallIsNamed(String readme) {
        java.util.Set<String> named = new java.util.TreeSet<>();
        Matcher name = NAME.matcher(readme);
        while (name.find()) {
            named.add(name.group(1));
        }
        for (java.lang.reflect.Method call : FishReaders.class.getMethods()) {
            if (call.getDeclaringClass() == FishReaders.class) {
                Due.due("README.md names " + call.getName(), named.contains(call.getName()) ? 1 : 0, 1);
            }
        }
    }

    private static void eachTestIsThere(String readme) {
        Matcher run = Pattern.compile("java -cp \\S+ (\\w+)").matcher(readme);
        Due.due("README.md says how a test is run", run.find() ? 1 : 0, 1);
        Path test = Path.of("src/test/java/" + run.group(1) + ".java");
        Due.due(test + " is there", Files.exists(test) ? 1 : 0, 1);
        Due.due(".ci/run is there", Files.isExecutable(Path.of(".ci/run")) ? 1 : 0, 1);
    }
}
