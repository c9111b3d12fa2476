import java.io.IOException;
import java.lang.reflect.Constructor;
import java.lang.reflect.Field;
import java.lang.reflect.Method;
import java.lang.reflect.Modifier;
import java.nio.file.Files;
import java.nio.file.Path;
import java.util.List;
import java.util.Set;
import java.util.TreeSet;

/** The face of the class is the document's, and nothing more. */
public final class FaceTest {
    private static final String[] FACE = {
        "NONE", "INPUT", "SUM", "REST", "SHARE", "LESSER", "GREATER", "TAX", "CARRY", "LIMIT",
        "new()",
        "void define(int int int int) IndexOutOfBoundsException IllegalArgumentException IllegalStateException",
        "int answer(int int) IndexOutOfBoundsException IllegalArgumentException",
        "int kindOf(int) IndexOutOfBoundsException",
        "int value(int) IndexOutOfBoundsException",
        "int boundFor(int int) IndexOutOfBoundsException IllegalArgumentException IllegalStateException",
        "boolean dependsOn(int int) IndexOutOfBoundsException",
        "int influence(int) IndexOutOfBoundsException",
        "int why(int int) IndexOutOfBoundsException",
        "int bracket(int int) IllegalArgumentException IllegalStateException",
        "int dropBrackets()",
        "int taxOn(int) IllegalArgumentException",
        "int carry(int int) IllegalArgumentException IllegalStateException",
        "int carried()",
        "int carriedAt(int) IndexOutOfBoundsException",
        "int year()",
        "int closeYear()",
        "int addCredit(int int) IllegalArgumentException IllegalStateException",
        "int dropCredit() IllegalStateException",
        "int creditAt(int int) IndexOutOfBoundsException",
        "int afterCredits(int) IndexOutOfBoundsException",
        "int bestSum(int) IndexOutOfBoundsException",
    };

    public static void main(String[] args) throws IOException {
        Checks.due("the face", face().toString(), new TreeSet<>(Set.of(FACE)).toString());
        Checks.due("final and public", Modifier.isFinal(TaxEngine.class.getModifiers())
            && Modifier.isPublic(TaxEngine.class.getModifiers()), true);
        constants();
        asWritten();
        Checks.end();
    }

    /** Each row of the document's face stands in the class, with the same names and in the same order. */
    private static void asWritten() throws IOException {
        List<String> source = Files.readAllLines(Path.of("src/main/java/TaxEngine.java"));
        int from = 0;
        int rows = 0;
        for (String row : Doc.read(Path.of("../shared/DOC.md")).under("The public face")) {
            if (row.equals("}")) {
                continue;
            }
            String written = row.contains("(") ? row.replace(";", " {") : row;
            int found = from;
            while (found < source.size() && !source.get(found).strip().equals(written)) {
                found++;
            }
            Checks.due("as the document writes it: " + row, found < source.size(), true);
            from = found < source.size() ? found + 1 : from;
            rows++;
        }
        Checks.due("rows of the face", rows, 1 + 2 + FACE.length - 10);
    }

    private static void constants() {
        int[] kinds = {TaxEngine.INPUT, TaxEngine.SUM, TaxEngine.REST, TaxEngine.SHARE, TaxEngine.LESSER,
            TaxEngine.GREATER, TaxEngine.TAX, TaxEngine.CARRY, TaxEngine.LIMIT};
        for (int kind = 0; kind < kinds.length; kind++) {
            Checks.due("kind " + kind, kinds[kind], kind);
        }
        Checks.due("NONE", TaxEngine.NONE, -1);
    }

    private static Set<String> face() {
        Set<String> face = new TreeSet<>();
        for (Field field : TaxEngine.class.getDeclaredFields()) {
            if (!Modifier.isPrivate(field.getModifiers())) {
                face.add(field.getName());
            }
        }
        for (Constructor<?> constructor : TaxEngine.class.getDeclaredConstructors()) {
            if (!Modifier.isPrivate(constructor.getModifiers())) {
                face.add("new(" + names(constructor.getParameterTypes()) + ")");
            }
        }
        for (Method method : TaxEngine.class.getDeclaredMethods()) {
            if (!Modifier.isPrivate(method.getModifiers())) {
                String thrown = names(method.getExceptionTypes());
                face.add(method.getReturnType() + " " + method.getName() + "(" + names(method.getParameterTypes()) + ")"
                    + (thrown.isEmpty() ? "" : " " + thrown));
            }
        }
        return face;
    }

    private static String names(Class<?>[] types) {
        StringBuilder text = new StringBuilder();
        for (Class<?> type : types) {
            text.append(text.length() == 0 ? "" : " ").append(type.getSimpleName());
        }
        return text.toString();
    }
}
