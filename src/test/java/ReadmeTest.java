import java.io.IOException;
import java.nio.file.Files;
import java.nio.file.Path;
import java.util.ArrayList;
import java.util.List;

/** The example of README.md: its calls answer what is said there, and README.md makes these calls and no others. */
public final class ReadmeTest {
    private static final int SING = CanticlePress.SING;

    public static void main(String[] args) throws IOException {
        Check check = new Check();
        answers(check);
        calls(check);
        check.end();
    }

    private static void answers(Check check) {
        CanticlePress press = new CanticlePress();
        check.same("hymn", press.hymn(2, 15, 20, 1 << 5), 0);
        check.same("pages", press.pages(0), 3);
        int[] firstLines = {0, 6, 14};
        int[] lastLines = {5, 13, 19};
        for (int page = 0; page < 3; page++) {
            check.same("the first line of the page " + page, press.pageOf(0, firstLines[page]), page);
            check.same("the last line of the page " + page, press.pageOf(0, lastLines[page]), page);
        }
        check.same("badTurns", press.badTurns(0), 1);
        check.same("right", press.right(0, SING, 0, 364), 0);
        check.same("learn", press.learn(0, 0), true);
        check.same("service", press.service(0, 10), 0);
        check.same("hymnOf", press.hymnOf(0), 0);
        check.same("later", press.service(0, 300), 1);
        check.same("hymnOf later", press.hymnOf(1), 0);
        check.same("pass", press.pass(10), 10);
        check.same("sung", press.sung(2, 0), 1);
        check.same("end", press.end(0, 200), 1);
        check.same("hymnOf later, then", press.hymnOf(1), CanticlePress.NONE);
    }

    private static void calls(Check check) throws IOException {
        List<String> due = List.of(
                "CanticlePress press = new CanticlePress();",
                "int hymn = press.hymn(2, 15, 20, 1 << 5);",
                "press.pages(hymn);",
                "press.badTurns(hymn);",
                "int right = press.right(hymn, CanticlePress.SING, 0, 364);",
                "press.learn(0, hymn);",
                "int service = press.service(0, 10);",
                "press.hymnOf(service);",
                "int later = press.service(0, 300);",
                "press.pass(10);",
                "press.sung(2, 0);",
                "press.end(right, 200);",
                "press.hymnOf(later);");
        check.same("the example", example(), due);
    }

    private static List<String> example() throws IOException {
        List<String> calls = new ArrayList<>();
        boolean within = false;
        for (String line : Files.readAllLines(Path.of("README.md"))) {
            if (line.startsWith("```")) {
                within = line.equals("```java");
            } else if (within) {
                calls.add(line.substring(0, line.indexOf("//")).trim());
            }
        }
        return calls;
    }
}
