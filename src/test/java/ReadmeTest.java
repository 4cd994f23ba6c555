import java.io.IOException;
import java.lang.reflect.Method;
import java.lang.reflect.Modifier;
import java.nio.file.DirectoryStream;
import java.nio.file.Files;
import java.nio.file.Path;
import java.util.List;

/** README.md: its example is the one below and answers what it says, and the page leaves out no call and no test. */
public final class ReadmeTest {
    private static final Path TESTS = Path.of("src/test/java");

    private static void example(Checks checks) {
        Calibratory keeper = new Calibratory();
        int standard = keeper.tell(Calibratory.NONE, 100, 3, 365);
        int gauge = keeper.tell(standard, 50, 4, 30);
        keeper.calibrate(standard, 5, 0);
        keeper.calibrate(gauge, 12, 0);
        int measurement = keeper.measure(gauge);
        int today = keeper.pass(30);
        int recalled = keeper.calibrate(standard, 101, 0);
        boolean isRecalled = keeper.isCalledBack(measurement);
        boolean isSuspect = keeper.isSuspect(gauge);
        int reason = keeper.distrusted(gauge);
        int bench = keeper.benchDay(gauge, 1);
        checks.due("today", today, 30);
        checks.due("called back", recalled, 1);
        checks.due("the measurement is called back", isRecalled, true);
        checks.due("the gauge is suspect", isSuspect, true);
        checks.due("why it is not trusted", reason, 1);
        checks.due("its day on the bench", bench, 30);
        checks.due("the standard's", keeper.benchDay(standard, 1), 31);
        keeper.calibrate(gauge, 0, 0);
        checks.due("suspect until it is calibrated again", keeper.isSuspect(gauge), false);
    }

    private static String withoutRemark(String line) {
        int remark = line.indexOf("//");
        return (remark < 0 ? line : line.substring(0, remark)).strip();
    }

    private static void dueTheSameExample(Checks checks, List<String> page) throws IOException {
        List<String> here = Files.readAllLines(TESTS.resolve("ReadmeTest.java"));
        int from = page.indexOf("```java") + 1;
        int to = from + page.subList(from, page.size()).indexOf("```");
        int at = 0;
        while (at < here.size() && !here.get(at).strip().equals(withoutRemark(page.get(from)))) at++;
        for (int line = from; line < to; line++, at++) {
            String run = at < here.size() ? here.get(at).strip() : "";
            checks.due("README.md, line " + (line + 1), withoutRemark(page.get(line)), run);
        }
        checks.due("the example has lines", to > from + 5, true);
    }

    private static void dueAllNamed(Checks checks, String page) throws IOException {
        for (Method call : Calibratory.class.getDeclaredMethods()) {
            if (Modifier.isPublic(call.getModifiers())) {
                checks.due("README.md names " + call.getName(), page.contains("`" + call.getName() + "("), true);
            }
        }
        try (DirectoryStream<Path> tests = Files.newDirectoryStream(TESTS, "*Test.java")) {
            for (Path test : tests) {
                String name = test.getFileName().toString().replace(".java", "");
                checks.due("README.md names " + name, page.contains("| `" + name + "` |"), true);
            }
        }
    }

    public static void main(String[] args) throws IOException {
        Checks checks = new Checks("ReadmeTest");
        List<String> page = Files.readAllLines(Path.of("README.md"));
        example(checks);
        dueTheSameExample(checks, page);
        dueAllNamed(checks, String.join("\n", page));
        checks.end();
    }
}
