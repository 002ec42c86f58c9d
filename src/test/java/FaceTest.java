import java.lang.reflect.Constructor;
import java.lang.reflect.Field;
import java.lang.reflect.Method;
import java.lang.reflect.Modifier;
import java.util.Set;
import java.util.TreeSet;

/** The public face is the document's, and nothing else is to be seen from outside. */
public final class FaceTest {
    private static final String[] FACE = {
        "int addService(int, char, int) throws IllegalArgumentException, IllegalStateException",
        "int addNeed(int, int) throws IndexOutOfBoundsException, IllegalArgumentException, "
            + "UnsupportedOperationException",
        "int setSize(int, int, int) throws IndexOutOfBoundsException, IllegalArgumentException, "
            + "IllegalStateException",
        "int setFrames(int) throws IllegalArgumentException",
        "int setRoom(int) throws IllegalArgumentException",
        "int setLimit(int) throws IllegalArgumentException",
        "int touch(int, int) throws IndexOutOfBoundsException, IllegalStateException",
        "int tick(int) throws IllegalArgumentException",
        "int time()",
        "char placeOf(int, int) throws IndexOutOfBoundsException",
        "char placeByEvents(int, int) throws IndexOutOfBoundsException",
        "int frameOf(int, int) throws IndexOutOfBoundsException, NoSuchElementException",
        "boolean isReferenced(int, int) throws IndexOutOfBoundsException",
        "int hand()",
        "int free()",
        "int stored()",
        "int storedAt(int) throws NoSuchElementException",
        "int onDisk()",
        "int pagesIn(int, char) throws IndexOutOfBoundsException, IllegalArgumentException",
        "int pressure()",
        "long stallsOf(int) throws IndexOutOfBoundsException",
        "char stateOf(int) throws IndexOutOfBoundsException",
        "int waitsFor(int) throws IndexOutOfBoundsException, NoSuchElementException",
        "boolean isNeeded(int) throws IndexOutOfBoundsException",
        "int startsIn(int) throws IndexOutOfBoundsException, IllegalStateException",
        "int starts(int) throws IndexOutOfBoundsException",
        "int score(int) throws IndexOutOfBoundsException",
        "int victim() throws NoSuchElementException",
        "int deaths()",
        "float smoothShare() throws ArithmeticException",
        "double meanStalls() throws ArithmeticException",
        "boolean isSound()",
    };

    private final Check check = new Check();

    public static void main(String[] args) {
        FaceTest test = new FaceTest();
        test.methodsAreTheDocuments();
        test.constructorAndFields();
        test.classesInsideAreHiddenAndStatic();
        test.check.end();
    }

    private void methodsAreTheDocuments() {
        Set<String> due = new TreeSet<>(Set.of(FACE));
        Set<String> names = new TreeSet<>();
        for (String line : FACE) {
            names.add(line.substring(line.indexOf(' ') + 1, line.indexOf('(')));
        }
        Set<String> seen = new TreeSet<>();
        for (Method method : Swapyard.class.getDeclaredMethods()) {
            if (method.isSynthetic()) {
                continue;
            }
            if (Modifier.isPrivate(method.getModifiers())) {
                check.due("a public name on a private method, " + method, false, names.contains(method.getName()));
            } else {
                check.due("the modifiers of " + method, Modifier.PUBLIC, method.getModifiers());
                seen.add(line(method));
            }
        }
        check.due("the methods", due, seen);
    }

    private void constructorAndFields() {
        check.due("the class is public and final", Modifier.PUBLIC | Modifier.FINAL, Swapyard.class.getModifiers());
        check.due("the constructors", 1, Swapyard.class.getDeclaredConstructors().length);
        for (Constructor<?> constructor : Swapyard.class.getDeclaredConstructors()) {
            check.due("the constructor", "public Swapyard()", constructor.toString());
        }
        for (Field field : Swapyard.class.getDeclaredFields()) {
            check.due("a private field, " + field, true, Modifier.isPrivate(field.getModifiers()));
            if (Modifier.isStatic(field.getModifiers())) {
                check.due("a final static field, " + field, true, Modifier.isFinal(field.getModifiers()));
            }
        }
    }

    private void classesInsideAreHiddenAndStatic() {
        for (Class<?> inside : Swapyard.class.getDeclaredClasses()) {
            int modifiers = inside.getModifiers();
            check.due("hidden, " + inside, false, Modifier.isPublic(modifiers) || Modifier.isProtected(modifiers));
            check.due("static, " + inside, true, Modifier.isStatic(modifiers));
        }
    }

    private static String line(Method method) {
        StringBuilder text = new StringBuilder();
        text.append(method.getReturnType().getSimpleName()).append(' ').append(method.getName()).append('(');
        for (Class<?> type : method.getParameterTypes()) {
            text.append(text.charAt(text.length() - 1) == '(' ? "" : ", ").append(type.getSimpleName());
        }
        text.append(')');
        for (Class<?> type : method.getExceptionTypes()) {
            text.append(text.indexOf("throws") < 0 ? " throws " : ", ").append(type.getSimpleName());
        }
        return text.toString();
    }
}
