import java.io.IOException;
import java.lang.reflect.Method;
import java.lang.reflect.Modifier;
import java.nio.file.Files;
import java.nio.file.Path;
import java.util.List;
import java.util.Set;
import java.util.TreeSet;
import java.util.regex.Matcher;
import java.util.regex.Pattern;
import java.util.stream.Collectors;
import java.util.stream.Stream;

/** README.md holds: its example answers as it says, and it names all calls, exceptions and tests, and no others. */
public final class ReadmeTest {
    private static final Pattern NAME = Pattern.compile("`([A-Za-z0-9]+)`");

    private final Check check = new Check();
    private final List<String> readme;

    private ReadmeTest(List<String> readme) {
        this.readme = readme;
    }

    public static void main(String[] args) throws IOException {
        ReadmeTest test = new ReadmeTest(Files.readAllLines(Path.of("README.md")));
        test.exampleAnswersAsTold();
        test.newObjectIsAsTold();
        test.allCallsAreNamed();
        test.allExceptionsAreNamed();
        test.allTestsAreNamed();
        test.check.end();
    }

    private void exampleAnswersAsTold() {
        Swapyard yard = new Swapyard();
        isLine("Swapyard yard = new Swapyard();");
        int web = yard.addService(10, 'a', 2);
        isLine("int web = yard.addService(10, 'a', 2);");
        int data = yard.addService(0, 'n', 1);
        isLine("int data = yard.addService(0, 'n', 1);");
        told("yard.addNeed(web, data);", "1", yard.addNeed(web, data));
        told("yard.touch(web, 0);", "1", yard.touch(web, 0));
        told("yard.touch(web, 0);", "0", yard.touch(web, 0));
        told("yard.placeOf(web, 0);", "f", yard.placeOf(web, 0));
        told("yard.setLimit(0);", "40", yard.setLimit(0));
        told("yard.tick(1);", "1", yard.tick(1));
        told("yard.stateOf(web);", "d", yard.stateOf(web));
        told("yard.startsIn(web);", "1", yard.startsIn(web));
        told("yard.tick(1);", "0", yard.tick(1));
        told("yard.stateOf(web);", "r", yard.stateOf(web));
        told("yard.starts(web);", "1", yard.starts(web));
        check.due("lines of the example", 14L, readme.stream().filter(line -> line.matches(".*yard[. ].*;.*")).count());
    }

    private void isLine(String code) {
        check.due("README.md has the line " + code, true, readme.stream().anyMatch(line -> line.startsWith(code)));
    }

    private void told(String code, String answer, Object got) {
        Pattern line = Pattern.compile(Pattern.quote(code) + " +// " + answer + "(:.*)?");
        check.due("README.md has the line " + code + " // " + answer, true,
                readme.stream().anyMatch(text -> line.matcher(text).matches()));
        check.due("the example's " + code, answer, String.valueOf(got));
    }

    private void newObjectIsAsTold() {
        isLine("`new Swapyard()` makes a manager at tick 0, without services, with 4 frames, a store of room 6 "
                + "and the limit 40.");
        Swapyard yard = new Swapyard();
        check.due("the tick of a new object", 0, yard.time());
        check.dueThrow("service 0 of a new object", IndexOutOfBoundsException.class, () -> yard.stateOf(0));
        check.due("the frames of a new object", 4, yard.setFrames(1));
        check.due("the room of a new object", 6, yard.setRoom(0));
        check.due("the limit of a new object", 40, yard.setLimit(0));
    }

    private void allCallsAreNamed() {
        Set<String> due = face().map(Method::getName).collect(Collectors.toCollection(TreeSet::new));
        check.due("the calls in README.md", due, namesInTable("| kind | calls |", 1));
    }

    private void allExceptionsAreNamed() {
        Set<String> due = face().flatMap(method -> Stream.of(method.getExceptionTypes())).map(Class::getSimpleName)
                .collect(Collectors.toCollection(TreeSet::new));
        check.due("the exceptions in README.md", due, namesInTable("| exception | when |", 0));
    }

    private void allTestsAreNamed() throws IOException {
        Set<String> due = new TreeSet<>();
        try (Stream<Path> files = Files.list(Path.of("src/test/java"))) {
            files.map(file -> file.getFileName().toString()).filter(name -> name.endsWith("Test.java"))
                    .forEach(name -> due.add(name.substring(0, name.length() - ".java".length())));
        }
        check.due("the tests in README.md", due, namesInTable("| file | what it tests |", 0));
    }

    private static Stream<Method> face() {
        return Stream.of(Swapyard.class.getDeclaredMethods()).filter(m -> Modifier.isPublic(m.getModifiers()));
    }

    /** The names in one column of the table that has this head. */
    private Set<String> namesInTable(String head, int column) {
        Set<String> names = new TreeSet<>();
        int first = readme.indexOf(head);
        check.due("README.md has the table " + head, true, first >= 0);
        for (int line = first + 1; first >= 0 && line < readme.size() && readme.get(line).startsWith("|"); line++) {
            Matcher matcher = NAME.matcher(readme.get(line).split("\\|")[column + 1]);
            while (matcher.find()) {
                names.add(matcher.group(1));
            }
        }
        return names;
    }
}
