import java.io.IOException;
import java.lang.reflect.Constructor;
import java.lang.reflect.Field;
import java.lang.reflect.Method;
import java.lang.reflect.Modifier;
import java.nio.file.Files;
import java.nio.file.Path;
import java.util.Set;
import java.util.TreeSet;

/** The face of the class is the one that the document shows under "The public face", no less and no more. */
public final class FaceTest {
    private static final Path DOCUMENT = Path.of("../shared/DOC.md");

    public static void main(String[] args) throws IOException {
        Check check = new Check();
        int[] constants = {CounterBraid.NONE, CounterBraid.BAD_INDEX, CounterBraid.BAD_VALUE, CounterBraid.BAD_STATE,
            CounterBraid.FULL};
        for (int i = 0; i < constants.length; i++) {
            check.due("constant " + i, constants[i], -1 - i);
        }
        Set<String> due = faceOfDocument();
        Set<String> found = faceOfClass();
        check.due("methods in the document", due.size(), 35);
        for (String method : found) {
            check.due("no more than the face: " + method, due.contains(method) ? 0 : 1, 0);
        }
        for (String method : due) {
            check.due("no less than the face: " + method, found.contains(method) ? 0 : 1, 0);
        }
        check.due("modifiers", CounterBraid.class.getModifiers(), Modifier.PUBLIC | Modifier.FINAL);
        check.due("constructors", CounterBraid.class.getDeclaredConstructors().length, 1);
        for (Constructor<?> constructor : CounterBraid.class.getDeclaredConstructors()) {
            check.due("public constructor without parameters",
                    Modifier.isPublic(constructor.getModifiers()) ? constructor.getParameterCount() : -1, 0);
        }
        check.due("open fields", countOpenFields(), constants.length);
        dueModifiers(check);
        check.end("FaceTest");
    }

    /** As "long count(int,int,int)". */
    private static Set<String> faceOfDocument() throws IOException {
        Set<String> face = new TreeSet<>();
        String text = Files.readString(DOCUMENT);
        String block = text.substring(text.indexOf("```java"), text.indexOf("```", text.indexOf("```java") + 3));
        for (String line : block.split("\n")) {
            String trimmed = line.trim();
            if (trimmed.startsWith("public ") && trimmed.endsWith(");") && !trimmed.contains(" CounterBraid(")) {
                String signature = trimmed.substring("public ".length(), trimmed.length() - 1);
                String head = signature.substring(0, signature.indexOf('('));
                String parameters = signature.substring(signature.indexOf('('));
                face.add(head + parameters.replaceAll("(int|long|boolean) \\w+", "$1").replace(" ", ""));
            }
        }
        return face;
    }

    private static Set<String> faceOfClass() {
        Set<String> face = new TreeSet<>();
        for (Method method : CounterBraid.class.getDeclaredMethods()) {
            if (!Modifier.isPrivate(method.getModifiers())) {
                StringBuilder line = new StringBuilder(method.getReturnType() + " " + method.getName() + "(");
                for (Class<?> type : method.getParameterTypes()) {
                    line.append(line.charAt(line.length() - 1) == '(' ? "" : ",").append(type);
                }
                face.add(line.append(')').toString());
            }
        }
        return face;
    }

    /** What isn't private is public; constants are static, final and int; the classes inside are static, and not public. */
    private static void dueModifiers(Check check) {
        for (Method method : CounterBraid.class.getDeclaredMethods()) {
            boolean isOpen = !Modifier.isPrivate(method.getModifiers());
            check.due("modifiers of " + method.getName(), isOpen ? method.getModifiers() : Modifier.PUBLIC, Modifier.PUBLIC);
        }
        for (Field field : CounterBraid.class.getDeclaredFields()) {
            boolean isOpen = !Modifier.isPrivate(field.getModifiers());
            int due = Modifier.PUBLIC | Modifier.STATIC | Modifier.FINAL;
            check.due("modifiers of " + field.getName(), isOpen ? field.getModifiers() : due, due);
            check.due("type of " + field.getName(), isOpen && field.getType() != int.class ? 1 : 0, 0);
        }
        for (Class<?> inside : CounterBraid.class.getDeclaredClasses()) {
            int forbidden = inside.getModifiers() & (Modifier.PUBLIC | Modifier.PROTECTED);
            check.due("openness of " + inside.getName(), forbidden, 0);
            check.due("static " + inside.getName(), Modifier.isStatic(inside.getModifiers()) ? 1 : 0, 1);
        }
    }

    private static int countOpenFields() {
        int open = 0;
        for (Field field : CounterBraid.class.getDeclaredFields()) {
            open += Modifier.isPrivate(field.getModifiers()) ? 0 : 1;
        }
        return open;
    }
}
