import java.lang.reflect.Field;
import java.lang.reflect.Member;
import java.lang.reflect.Method;
import java.lang.reflect.Modifier;
import java.nio.file.Files;
import java.nio.file.Path;
import java.util.Set;
import java.util.TreeSet;
import java.util.regex.Matcher;
import java.util.regex.Pattern;

/** The public face is that of the document, and the source keeps to what can be seen by words of LANGUAGE.md. */
public final class FaceAndLanguage {
    private static final String FACE = "row:3 set:3 copy:5 drop:1 feed:1 library:0 fault:0 undo:0 nights:1 light:2 "
            + "keepIt:2 change:2 move:2 catchIt:1 book:2 fish:2 stand:1 ahead:3 later:3 when:1 first:1 hole:2 order:3 "
            + "lamp:3 caught:3 grams:2 who:6 paste:5 hungers:4 dark:4 drawn:3 image:1 restore:1 kind:1 as:2 ask:2 "
            + "trace:1 count:1 status:0";
    private static final String[] NOT_THE_LANGUAGE = {
        "throw", "throws", "try", "catch", "finally", "synchronized", "assert", "import", "package", "var", "native",
        "volatile", "transient", "strictfp", "Object", "Exception", "Random", "Thread", "double", "float", "String"};

    public static void main(String[] args) throws Exception {
        constantsAreAsTold();
        theFaceIsAsTold();
        classesInsideAreHidden();
        theSourceHasNoOtherWords();
        Due.end();
    }

    private static void constantsAreAsTold() throws Exception {
        String[] names = {"NONE", "BAD", "STATE", "FULL"};
        for (int k = 0; k < names.length; k++) {
            Due.due(names[k], FishReaders.class.getField(names[k]).getInt(null), -1000000 - k);
        }
        Due.due("public constants", FishReaders.class.getFields().length, 4);
    }

    private static void theFaceIsAsTold() {
        Set<String> due = new TreeSet<>(Set.of(FACE.split(" ")));
        Set<String> there = new TreeSet<>();
        Set<String> names = new TreeSet<>();
        for (Method m : FishReaders.class.getDeclaredMethods()) {
            if (Modifier.isPublic(m.getModifiers())) {
                there.add(m.getName() + ":" + m.getParameterCount());
                names.add(m.getName());
                Class<?> answers = m.getName().equals("dark") ? long.class : int.class;
                Due.due(m.getName() + " answers " + answers, m.getReturnType() == answers ? 1 : 0, 1);
                Due.due(m.getName() + " is static", Modifier.isStatic(m.getModifiers()) ? 1 : 0, 0);
            } else {
                allArePrivate(m);
            }
        }
        Due.due("the face " + there + " is " + due, there.equals(due) ? 1 : 0, 1);
        for (Field f : FishReaders.class.getDeclaredFields()) {
            if (!Modifier.isPublic(f.getModifiers())) {
                allArePrivate(f);
            }
        }
        int made = FishReaders.class.getModifiers();
        Due.due("public and final", made & (Modifier.PUBLIC | Modifier.FINAL), Modifier.PUBLIC | Modifier.FINAL);
        Due.due("constructors", FishReaders.class.getConstructors().length, 1);
        noHiddenOneHasAPublicName(names);
    }

    private static void allArePrivate(Member m) {
        boolean hidden = Modifier.isPrivate(m.getModifiers()) || m.isSynthetic();
        Due.due(m.getName() + " is private", hidden ? 1 : 0, 1);
    }

    private static void noHiddenOneHasAPublicName(Set<String> names) {
        for (Method m : FishReaders.class.getDeclaredMethods()) {
            if (!Modifier.isPublic(m.getModifiers())) {
                Due.due(m.getName() + " is a public name", names.contains(m.getName()) ? 1 : 0, 0);
            }
        }
        for (Class<?> inside : FishReaders.class.getDeclaredClasses()) {
            for (Method m : inside.getDeclaredMethods()) {
                Due.due(inside + "." + m.getName() + " is a public name", names.contains(m.getName()) ? 1 : 0, 0);
            }
        }
    }

    private static void classesInsideAreHidden() {
        Class<?>[] inside = FishReaders.class.getDeclaredClasses();
        Due.due("some twelve classes", inside.length <= 11 ? 1 : 0, 1);
        for (Class<?> one : inside) {
            int is = one.getModifiers();
            Due.due(one + " is static", Modifier.isStatic(is) ? 1 : 0, 1);
            Due.due(one + " is public or protected", Modifier.isPublic(is) || Modifier.isProtected(is) ? 1 : 0, 0);
            int fields = 0;
            for (Field f : one.getDeclaredFields()) {
                fields += Modifier.isStatic(f.getModifiers()) ? 0 : 1;
            }
            Due.due(one + " has some twenty fields", fields <= 20 ? 1 : 0, 1);
        }
    }

    private static void theSourceHasNoOtherWords() throws Exception {
        String source = Files.readString(Path.of("src/main/java/FishReaders.java"));
        String code = source.replaceAll("(?s)/\\*.*?\\*/", "").replaceAll("//[^\n]*", "");
        for (String word : NOT_THE_LANGUAGE) {
            Matcher found = Pattern.compile("\\b" + word + "\\b").matcher(code);
            Due.due("the source says " + word, found.find() ? 1 : 0, 0);
        }
        Due.due("lambdas, method references, annotations", code.matches("(?s).*(->|::|@).*") ? 1 : 0, 0);
    }
}
