import java.io.IOException;
import java.lang.reflect.InvocationTargetException;
import java.lang.reflect.Method;
import java.lang.reflect.Modifier;
import java.nio.file.Files;
import java.nio.file.Path;
import java.util.HashMap;
import java.util.Map;
import java.util.Set;
import java.util.TreeSet;
import java.util.regex.Matcher;
import java.util.regex.Pattern;

/** The example in README.md answers what its comments say, and has every call of the face in it. */
public final class ReadmeTest {
    private static final Path README = Path.of("README.md");
    private static final String MAKING = "MadeOf x = new MadeOf();";
    private static final Pattern CALL = Pattern.compile("(?:int (\\w+) = )?x\\.(\\w+)\\((.*?)\\);\\s*// (-?\\d+)\\b.*");

    private final Due due = new Due();
    private final MadeOf x = new MadeOf();
    private final Map<String, Integer> named = new HashMap<>();
    private final Set<String> called = new TreeSet<>();

    public static void main(String[] args) throws IOException {
        new ReadmeTest().run(Files.readString(README));
    }

    private void run(String readme) {
        due.chapter("the example in README.md");
        Matcher example = Pattern.compile("```java\n(.*?)```", Pattern.DOTALL).matcher(readme);
        due.is("whether there is one", example.find() ? 1 : 0, 1);
        for (String line : example.group(1).split("\n")) {
            if (!line.isBlank() && !line.equals(MAKING)) {
                check(line);
            }
        }
        for (Method method : MadeOf.class.getDeclaredMethods()) {
            if (Modifier.isPublic(method.getModifiers())) {
                due.is("whether it calls " + method.getName(), called.contains(method.getName()) ? 1 : 0, 1);
            }
        }
        due.close("ReadmeTest");
    }

    private void check(String line) {
        Matcher call = CALL.matcher(line);
        boolean isCall = call.matches();
        due.is("whether this is a call with its answer: " + line, isCall ? 1 : 0, 1);
        if (isCall) {
            int answer = answer(call.group(2), call.group(3));
            due.is(line, answer, Integer.parseInt(call.group(4)));
            called.add(call.group(2));
            named.put(call.group(1), answer);
        }
    }

    private int answer(String name, String list) {
        String[] words = list.isEmpty() ? new String[0] : list.split(", ");
        Class<?>[] types = new Class<?>[words.length];
        Object[] numbers = new Object[words.length];
        for (int i = 0; i < words.length; i++) {
            types[i] = int.class;
            numbers[i] = named.containsKey(words[i]) ? named.get(words[i]) : Integer.decode(words[i]);
        }
        try {
            return (int) MadeOf.class.getMethod(name, types).invoke(x, numbers);
        } catch (NoSuchMethodException | IllegalAccessException | InvocationTargetException e) {
            throw new IllegalStateException("README.md calls " + name + "(" + list + ")", e);
        }
    }
}
