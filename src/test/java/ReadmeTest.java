import java.io.IOException;
import java.lang.reflect.InvocationTargetException;
import java.lang.reflect.Method;
import java.nio.file.Files;
import java.nio.file.Path;
import java.util.Set;
import java.util.TreeSet;
import java.util.regex.Matcher;
import java.util.regex.Pattern;

/**
 * Makes the calls that README.md shows, one by one on one engine: each answers or throws what the remark
 * behind it says, and each method of the face is among them.
 */
public final class ReadmeTest {
    private static final Pattern CALL = Pattern.compile("engine\\.(\\w+)\\((.*)\\); *// (.*)");
    private static final Pattern DUE = Pattern.compile("-> (-?\\w+).*|throws (\\w+).*");

    public static void main(String[] args) throws IOException, ReflectiveOperationException {
        TaxEngine engine = new TaxEngine();
        Set<String> shown = new TreeSet<>();
        for (String row : Files.readAllLines(Path.of("README.md"))) {
            Matcher call = CALL.matcher(row);
            if (call.matches()) {
                Method method = method(call.group(1));
                shown.add(method.getName());
                String got = answerOf(engine, method, call.group(2).isEmpty() ? new String[0] : call.group(2).split(", "));
                Matcher due = DUE.matcher(call.group(3));
                if (due.matches()) {
                    Checks.due(row, got, due.group(1) != null ? due.group(1) : due.group(2));
                } else {
                    Checks.due(row, got.endsWith("Exception"), false);
                }
            } else if (row.startsWith("engine.")) {
                Checks.fault("this row can't be read: " + row);
            }
        }
        Set<String> face = new TreeSet<>(Set.of("dropBrackets", "dropCredit", "kindOf"));
        face.addAll(shown);
        Checks.due("the methods shown, and the three that need no example", face.toString(), methods().toString());
        Checks.end();
    }

    private static Set<String> methods() {
        Set<String> names = new TreeSet<>();
        for (Method method : TaxEngine.class.getMethods()) {
            if (method.getDeclaringClass() == TaxEngine.class) {
                names.add(method.getName());
            }
        }
        return names;
    }

    private static Method method(String name) throws NoSuchMethodException {
        for (Method method : TaxEngine.class.getMethods()) {
            if (method.getName().equals(name)) {
                return method;
            }
        }
        throw new NoSuchMethodException(name);
    }

    private static String answerOf(TaxEngine engine, Method method, String[] words) throws ReflectiveOperationException {
        Object[] numbers = new Object[words.length];
        for (int each = 0; each < words.length; each++) {
            numbers[each] = number(words[each]);
        }
        try {
            return String.valueOf(method.invoke(engine, numbers));
        } catch (InvocationTargetException e) {
            return e.getCause().getClass().getSimpleName();
        }
    }

    private static int number(String word) throws ReflectiveOperationException {
        String constant = "TaxEngine.";
        return word.startsWith(constant) ? TaxEngine.class.getField(word.substring(constant.length())).getInt(null) : Integer.parseInt(word);
    }
}
