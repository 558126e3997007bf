import java.io.IOException;
import java.lang.reflect.InvocationTargetException;
import java.lang.reflect.Method;
import java.nio.file.Files;
import java.nio.file.Path;
import java.util.ArrayList;
import java.util.Comparator;
import java.util.List;
import java.util.regex.Matcher;
import java.util.regex.Pattern;

/**
 * Every sentence of the document that names a boundary, each by a test of its own: the methods under
 * {@link Says} in the chapters, in the order of the promises. With the document's path as argument it
 * also holds the words that the tests quote against the document, and the document's against theirs.
 */
public final class SentencesTest {
    private static final int PROMISES = 29;
    private static final Class<?>[] CHAPTERS = {Promises1To4.class, Promises5To8.class, Promises9To13.class,
        Promises14To15.class, Promises16To17.class, Promises18To20.class, Promises21To25.class, Promises26To29.class};

    public static void main(String[] args) throws IOException {
        Due due = new Due();
        List<Method> tests = tests();
        for (int promise = 1; promise <= PROMISES; promise++) {
            int count = 0;
            for (Method test : tests) {
                if (test.getAnnotation(Says.class).promise() == promise) {
                    run(test, due);
                    count++;
                }
            }
            due.chapter("promise " + promise);
            due.is("whether there is a test of it", count > 0 ? 1 : 0, 1);
        }
        if (args.length > 0 && Files.isReadable(Path.of(args[0]))) {
            compareWords(plain(Files.readString(Path.of(args[0]))), tests, due);
        } else {
            System.out.println("SentencesTest: no document at hand, the tests' quotes are not looked up");
        }
        System.out.println("SentencesTest: " + tests.size() + " tests of sentences");
        due.close("SentencesTest");
    }

    private static List<Method> tests() {
        List<Method> tests = new ArrayList<>();
        for (Class<?> chapter : CHAPTERS) {
            for (Method method : chapter.getDeclaredMethods()) {
                if (method.isAnnotationPresent(Says.class)) {
                    tests.add(method);
                }
            }
        }
        tests.sort(Comparator.comparing(Method::getName));
        return tests;
    }

    private static void run(Method test, Due due) {
        Says says = test.getAnnotation(Says.class);
        due.chapter("promise " + says.promise() + ", \"" + says.words() + "\", " + test.getName());
        int before = due.checked();
        String thrown = "nothing";
        try {
            test.invoke(null, due);
        } catch (InvocationTargetException e) {
            thrown = e.getCause().toString();
        } catch (IllegalAccessException e) {
            thrown = e.toString();
        }
        due.is("what was thrown (" + thrown + ")", thrown.equals("nothing") ? 0 : 1, 0);
        due.is("whether it asked for anything", due.checked() > before + 1 ? 1 : 0, 1);
    }

    private static String plain(String text) {
        return text.replace("`", "").replaceAll("\\s+", " ");
    }

    private static void compareWords(String document, List<Method> tests, Due due) {
        due.chapter("the document");
        for (Method test : tests) {
            String words = test.getAnnotation(Says.class).words();
            due.is("whether it says \"" + words + "\", as " + test.getName() + " quotes", document.contains(words) ? 1 : 0, 1);
        }
        Matcher promise = Pattern.compile("## Promise (\\d+): [^#]*?\\): ([^#]*)").matcher(document);
        while (promise.find()) {
            int number = Integer.parseInt(promise.group(1));
            for (String clause : promise.group(2).trim().split("[.;] ?")) {
                due.is("whether a test of promise " + number + " quotes \"" + clause + "\"",
                    isQuoted(clause, number, tests) ? 1 : 0, 1);
            }
        }
    }

    private static boolean isQuoted(String clause, int promise, List<Method> tests) {
        for (Method test : tests) {
            Says says = test.getAnnotation(Says.class);
            if (says.promise() == promise && (says.words().contains(clause) || clause.contains(says.words()))) {
                return true;
            }
        }
        return false;
    }
}
