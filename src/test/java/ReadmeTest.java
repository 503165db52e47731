import java.io.File;
import java.io.IOException;
import java.lang.reflect.Method;
import java.lang.reflect.Modifier;
import java.nio.file.Files;
import java.nio.file.Path;
import java.util.ArrayList;
import java.util.List;

/** README.md as it is: what its example answers, and that it names all calls and all tests, and no test besides. */
public final class ReadmeTest {
    private static final String TESTS = "src/test/java";

    private final List<String> text;
    private int example;

    private ReadmeTest(List<String> text) {
        this.text = text;
    }

    public static void main(String[] args) throws IOException {
        ReadmeTest test = new ReadmeTest(Files.readAllLines(Path.of("README.md")));
        test.exampleAnswersAsTold();
        test.allCallsAreNamed();
        test.allTestsAreNamed();
        test.namedTestsAreThere();
        Check.report();
    }

    /** The example once more: each line of it, in its order, with what it really answers. */
    private void exampleAnswersAsTold() {
        example = text.indexOf("```java");
        Check.same("there is an example", example >= 0 ? 1 : 0, 1);
        SundogLine line = new SundogLine();
        told("SundogLine line = new SundogLine();");
        int west = told("int west = line.build(100, 5, 0);", line.build(100, 5, 0));
        int east = told("int east = line.build(400, -20, 10);", line.build(400, -20, 10));
        told("int far = line.build(700, 300, -5);", line.build(700, 300, -5));
        int halo = told("int halo = line.addHalo(1000, 100, 10, 1);", line.addHalo(1000, 100, 10, 1));
        told("line.comes(halo, east);", line.comes(halo, east));
        told("line.reading(halo, east);", line.reading(halo, east));
        told("line.halo(halo, 1);", line.halo(halo, 1));
        told("line.halo(halo, 3);", line.halo(halo, 3));
        told("line.guess(halo, east);", line.guess(halo, east));
        told("line.advise(east);", line.advise(east));
        told("line.wire(west, east, 1000);", line.wire(west, east, 1000));
        told("line.spread(1000);", line.spread(1000));
        told("line.align(west, 1000);", line.align(west, 1000));
        told("line.spread(1000);", line.spread(1000));
        told("line.cloud(east, 3500, 4500);", line.cloud(east, 3500, 4500));
        told("line.reading(halo, east);", line.reading(halo, east));
        told("```");
    }

    private int told(String call, int answer) {
        String comment = told(call);
        String[] words = comment.split("[ :]+");
        Check.same("README's answer of " + call, words.length > 1 ? words[1] : "", Integer.toString(answer));
        return answer;
    }

    /** What stands behind the call in the next line of the example. */
    private String told(String call) {
        example++;
        String next = example < text.size() ? text.get(example) : "";
        boolean isThere = next.startsWith(call);
        Check.same("README's line of " + call, isThere ? call : next, call);
        return isThere ? next.substring(call.length()).trim() : "";
    }

    private void allCallsAreNamed() {
        for (Method method : SundogLine.class.getDeclaredMethods()) {
            if (Modifier.isPublic(method.getModifiers())) {
                String call = "`" + method.getName() + "(";
                Check.same("README names " + call, countOf(call), 1);
            }
        }
    }

    private void allTestsAreNamed() {
        for (String test : tests()) {
            Check.same("README names " + test, countOf("- `" + test + "`:"), 1);
        }
    }

    private void namedTestsAreThere() {
        for (String line : text) {
            if (line.startsWith("- `") && line.contains("Test`:")) {
                String test = line.substring(3, line.indexOf("`:"));
                Check.same("there is " + test, tests().contains(test) ? 1 : 0, 1);
            }
        }
    }

    private static List<String> tests() {
        List<String> names = new ArrayList<>();
        String[] files = new File(TESTS).list();
        for (String file : files == null ? new String[0] : files) {
            if (file.endsWith("Test.java")) {
                names.add(file.substring(0, file.length() - ".java".length()));
            }
        }
        Check.same("there are tests", names.isEmpty() ? 1 : 0, 0);
        return names;
    }

    private int countOf(String piece) {
        int count = 0;
        for (String line : text) {
            for (int at = line.indexOf(piece); at >= 0; at = line.indexOf(piece, at + 1)) {
                count++;
            }
        }
        return count;
    }
}
