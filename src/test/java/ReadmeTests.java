import java.io.IOException;
import java.lang.reflect.Method;
import java.lang.reflect.Modifier;
import java.nio.file.Files;
import java.nio.file.Path;
import java.util.ArrayList;
import java.util.List;
import java.util.stream.Stream;

/** README.md names every call and every test, and its example answers what it says. */
public final class ReadmeTests {
    private static final Path README = Path.of("README.md");
    private static final Path TESTS = Path.of("src/test/java");

    private final Due due = new Due();

    public static void main(String[] args) throws IOException {
        ReadmeTests tests = new ReadmeTests();
        tests.example();
        tests.exampleIsTheOneInReadme();
        tests.callsAreNamed();
        tests.testsAreNamed();
        tests.due.end();
    }

    private void example() {
        // example begins
        TrainingRows rows = new TrainingRows();
        int first = rows.course(365, 60, 10);      // term in days, pass mark, most days put off by uses
        int second = rows.course(90, 50, 0);
        rows.need(second, first);                  // who tries the second must hold the first
        rows.found(0, first);                      // person 0 has the first pass
        rows.teach(0, first, true);                // and teaches it: 3 learners a day, less that pass
        int result = rows.result(1, first, 75);    // person 1 tries it with mark 75 and passes
        int barred = rows.barred(1, second);       // 0: person 1 may try the second
        rows.day(300);
        int putOff = rows.use(1, first);           // the lapse is put off by one day
        int lapse = rows.lapse(1, first);          // from day 365 to day 366
        long courses = first | (long) first << 4;  // seats 0 and 1 are of the first course
        int seated = rows.plan(courses, 2, 65);    // for those who lapse in at most 65 days
        int person = rows.seated(0);               // who is on seat 0
        // example ends
        due.is("the first course", 0, () -> first);
        due.is("the second course", 1, () -> second);
        due.is("the number of the try behind the first pass", 1, () -> result);
        due.is("person 1 may try", 0, () -> barred);
        due.is("the days put off", 1, () -> putOff);
        due.is("the lapse put off", 366, () -> lapse);
        due.is("person 0 alone lapses by day 365", 1, () -> seated);
        due.is("who is on seat 0", 0, () -> person);
    }

    private void exampleIsTheOneInReadme() throws IOException {
        List<String> source = Files.readAllLines(TESTS.resolve("ReadmeTests.java"));
        String told = between(Files.readAllLines(README), "```java", "```").toString();
        String run = between(source, "// example begins", "// example ends").toString();
        due.same("README's example, line by line", run, told);
    }

    private static List<String> between(List<String> lines, String begin, String end) {
        List<String> found = new ArrayList<>();
        boolean inside = false;
        for (String line : lines) {
            String text = line.strip();
            if (inside && text.equals(end)) {
                return found;
            }
            if (inside) {
                found.add(text);
            }
            inside |= text.equals(begin);
        }
        return found;
    }

    private void callsAreNamed() throws IOException {
        String readme = Files.readString(README);
        for (Method method : TrainingRows.class.getDeclaredMethods()) {
            if (Modifier.isPublic(method.getModifiers())) {
                boolean named = readme.contains("| `" + method.getName() + "(");
                due.is("README has a row for " + method.getName(), true, () -> named);
            }
        }
    }

    private void testsAreNamed() throws IOException {
        String readme = Files.readString(README);
        try (Stream<Path> files = Files.list(TESTS)) {
            for (Path file : files.toList()) {
                String name = file.getFileName().toString().replace(".java", "");
                boolean named = !name.endsWith("Tests") || readme.contains("- `" + name + "`:");
                due.is("README tells what " + name + " is for", true, () -> named);
            }
        }
    }
}
