import java.io.IOException;
import java.nio.file.Files;
import java.nio.file.Path;
import java.util.Set;
import java.util.TreeSet;
import java.util.regex.Matcher;
import java.util.regex.Pattern;

/** The example of README.md answers what stands behind its lines, and README.md names every call. */
public final class ReadmeTest {
    private static final Pattern EXAMPLE = Pattern.compile("```java\n(.*?)```", Pattern.DOTALL);
    private static final Pattern FED = Pattern.compile("for \\(char c : \"(.*)\"\\.toCharArray\\(\\)\\) \\{");
    private static final Pattern CALL = Pattern.compile("book\\.(\\w+)\\((.*)\\); +// (-?\\d+)(?::.*)?");
    private static final Pattern CONSTANT = Pattern.compile("EndowBook\\.([A-Z]+)");
    private static final Checks checks = new Checks();

    private ReadmeTest() {
    }

    public static void main(String[] args) throws IOException, ReflectiveOperationException {
        String readme = Files.readString(Path.of("README.md"));
        Matcher example = EXAMPLE.matcher(readme);
        checks.isTrue("README.md has an example", example.find());
        answers(example.group(1));
        names(readme);
        checks.endWithExitCode("ReadmeTest");
    }

    private static void answers(String example) throws ReflectiveOperationException {
        EndowBook book = new EndowBook();
        int calls = 0;
        for (String line : example.split("\n")) {
            Matcher fed = FED.matcher(line.strip());
            Matcher call = CALL.matcher(line.strip());
            if (fed.matches()) {
                Checks.feedText(book, fed.group(1));
            } else if (call.matches()) {
                String words = call.group(1) + " " + withNumbers(call.group(2)).replace(",", "");
                checks.due(line.strip(), Lines.answer(book, words.strip()), Long.parseLong(call.group(3)));
                calls++;
            } else {
                checks.isTrue("a line of the example that has no answer: " + line, isPlain(line.strip()));
            }
        }
        checks.isTrue("the example has calls", calls > 0);
    }

    private static boolean isPlain(String line) {
        return line.isEmpty() || line.equals("}") || line.equals("EndowBook book = new EndowBook();")
            || line.startsWith("book.feed(c, 1);");
    }

    private static String withNumbers(String arguments) throws ReflectiveOperationException {
        Matcher constant = CONSTANT.matcher(arguments);
        StringBuilder text = new StringBuilder();
        while (constant.find()) {
            constant.appendReplacement(text, "" + EndowBook.class.getField(constant.group(1)).getInt(null));
        }
        return constant.appendTail(text).toString();
    }

    private static void names(String readme) {
        Set<String> missing = new TreeSet<>();
        for (String name : Call.NAMES) {
            if (!readme.contains("`" + name + "`")) {
                missing.add(name);
            }
        }
        checks.isTrue("calls that README.md doesn't name: " + missing, missing.isEmpty());
        checks.isTrue("README.md says how to run the tests", readme.contains("bash .ci/run"));
    }
}
