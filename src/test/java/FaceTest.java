import java.io.IOException;
import java.lang.reflect.Constructor;
import java.lang.reflect.Field;
import java.lang.reflect.Method;
import java.lang.reflect.Modifier;
import java.nio.file.Files;
import java.nio.file.Path;
import java.util.Arrays;
import java.util.Set;
import java.util.TreeSet;
import java.util.regex.Matcher;
import java.util.regex.Pattern;

/** The public face is the document's, and nothing else of the class can be seen from outside. */
public final class FaceTest {
    private static final String FACE = "part/1 make/4 find/4 link/4 cut/2 counts/2 hold/5 join/3 undo/1 unlike/3 group/2 "
        + "quarrels/1 feed/5 end/1 warning/0 fault/0 bad/3 hit/3 way/4 has/4 since/3 gaps/3 ring/2 calls/1 recall/3 "
        + "told/1 count/1 status/0";

    public static void main(String[] args) throws IOException {
        Due due = new Due();
        due.chapter("the face");
        Set<String> want = new TreeSet<>(Arrays.asList(FACE.split(" ")));
        Set<String> names = new TreeSet<>();
        for (String method : want) {
            names.add(method.substring(0, method.indexOf('/')));
        }
        Set<String> got = new TreeSet<>();
        for (Method method : MadeOf.class.getDeclaredMethods()) {
            checkMethod(due, method, names, got);
        }
        due.is("the methods " + got, got.equals(want) ? 1 : 0, 1);
        for (Field field : MadeOf.class.getDeclaredFields()) {
            boolean isPrivate = Modifier.isPrivate(field.getModifiers());
            due.is("the field " + field, isPrivate || field.getName().equals("NONE") ? 1 : 0, 1);
        }
        Constructor<?>[] constructors = MadeOf.class.getDeclaredConstructors();
        due.is("the constructors", constructors.length, 1);
        due.is("a public constructor", Modifier.isPublic(constructors[0].getModifiers()) ? 1 : 0, 1);
        due.is("a final class", Modifier.isFinal(MadeOf.class.getModifiers()) ? 1 : 0, 1);
        due.is("NONE", MadeOf.NONE, -1);
        due.is("public constants and a public class", publicConstants() && Modifier.isPublic(MadeOf.class.getModifiers()) ? 1 : 0, 1);
        if (args.length > 0 && Files.isReadable(Path.of(args[0]))) {
            Set<String> documented = documented(Files.readString(Path.of(args[0])));
            due.is("the document's face " + documented, documented.equals(got) ? 1 : 0, 1);
        }
        due.close("FaceTest");
    }

    private static boolean publicConstants() {
        Field[] seen = MadeOf.class.getFields();
        int constant = Modifier.PUBLIC | Modifier.STATIC | Modifier.FINAL;
        return seen.length == 1 && seen[0].getType() == int.class && seen[0].getModifiers() == constant;
    }

    private static Set<String> documented(String document) {
        Set<String> methods = new TreeSet<>();
        Matcher method = Pattern.compile("    public int (\\w+)\\((.*)\\);").matcher(document);
        while (method.find()) {
            int parameters = method.group(2).isEmpty() ? 0 : method.group(2).split(", ").length;
            methods.add(method.group(1) + "/" + parameters);
        }
        return methods;
    }

    private static void checkMethod(Due due, Method method, Set<String> names, Set<String> got) {
        int modifiers = method.getModifiers();
        if (Modifier.isPublic(modifiers)) {
            got.add(method.getName() + "/" + method.getParameterCount());
            due.is(method + " gives an int", method.getReturnType() == int.class ? 1 : 0, 1);
            for (Class<?> type : method.getParameterTypes()) {
                due.is(method + " takes ints", type == int.class ? 1 : 0, 1);
            }
        } else {
            due.is(method + " is private", Modifier.isPrivate(modifiers) ? 1 : 0, 1);
            due.is(method + " has a name of its own", names.contains(method.getName()) ? 0 : 1, 1);
        }
    }
}
