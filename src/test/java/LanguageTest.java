import java.io.IOException;
import java.nio.file.Files;
import java.nio.file.Path;
import java.util.ArrayList;
import java.util.LinkedHashMap;
import java.util.List;
import java.util.Map;
import java.util.Set;
import java.util.TreeSet;
import java.util.regex.Matcher;
import java.util.regex.Pattern;

/** Rules 4, 8, 11 and 12 of LANGUAGE.md, as far as the text of the class shows them. */
public final class LanguageTest {
    private static final Pattern HEAD =
        Pattern.compile("^( {4}| {8})((?:public |private |static )*)(?:[\\w\\[\\]]+ )?(\\w+)\\(([^)]*)\\) \\{$");
    private static final Pattern NAME_CALLED = Pattern.compile("\\b(\\w+)\\(");
    private static final Pattern FIELD_MADE = Pattern.compile(" *(?:private )?final [\\w\\[\\]]+ \\w+ = new .*;");
    private static final Pattern LIBRARY = Pattern.compile("\\b(?:String|Math|System|Arrays|Integer|Long)\\.(\\w+)");
    private static final Set<String> USED = Set.of("min", "max", "arraycopy");
    private static final Checks checks = new Checks();

    private static final class Method {
        final String name;
        final String parameters;
        final List<String> body = new ArrayList<>();

        Method(String name, String parameters) {
            this.name = name;
            this.parameters = parameters;
        }

        boolean isConstructor() {
            return Character.isUpperCase(name.charAt(0));
        }

        Set<String> called() {
            Set<String> names = new TreeSet<>();
            for (String line : body) {
                Matcher m = NAME_CALLED.matcher(line);
                while (m.find()) {
                    names.add(m.group(1));
                }
            }
            return names;
        }
    }

    private LanguageTest() {
    }

    public static void main(String[] args) throws IOException {
        List<String> source = Files.readAllLines(Path.of("src/main/java/EndowBook.java"));
        List<Method> methods = methods(source);
        checks.isTrue("all methods were seen: " + methods.size(), methods.size() >= Call.NAMES.length);
        for (Method method : methods) {
            sizes(method);
        }
        depths(methods);
        nothingMadeByCalls(source, methods);
        library(source);
        checks.endWithExitCode("LanguageTest");
    }

    private static List<Method> methods(List<String> source) {
        List<Method> all = new ArrayList<>();
        Method open = null;
        String end = "";
        for (String line : source) {
            Matcher head = HEAD.matcher(line);
            if (open == null && head.matches()) {
                open = new Method(head.group(3), head.group(4));
                end = head.group(1) + "}";
                all.add(open);
            } else if (open != null && line.equals(end)) {
                open = null;
            } else if (open != null) {
                open.body.add(line);
            }
        }
        return all;
    }

    private static void sizes(Method method) {
        checks.isTrue("rule 11: lines of " + method.name + ": " + method.body.size(), method.body.size() <= 60);
        int parameters = method.parameters.isEmpty() ? 0 : method.parameters.split(",").length;
        checks.isTrue("rule 11: parameters of " + method.name, parameters <= 7);
    }

    /** By names alone: methods of two classes that bear one name count as one. */
    private static void depths(List<Method> methods) {
        Map<String, Set<String>> calls = new LinkedHashMap<>();
        for (Method method : methods) {
            calls.computeIfAbsent(method.name, n -> new TreeSet<>()).addAll(method.called());
        }
        for (Set<String> called : calls.values()) {
            called.retainAll(calls.keySet());
        }
        for (String name : calls.keySet()) {
            int depth = depth(name, calls, 0);
            checks.isTrue("rules 8, 11: calls under " + name + " stand " + depth + " deep", depth <= 8);
        }
    }

    private static int depth(String name, Map<String, Set<String>> calls, int above) {
        if (above > 20) {
            return 1;
        }
        int deepest = 0;
        for (String other : calls.get(name)) {
            deepest = Math.max(deepest, depth(other, calls, above + 1));
        }
        return deepest + 1;
    }

    private static void nothingMadeByCalls(List<String> source, List<Method> methods) {
        int made = 0;
        for (String line : source) {
            made += line.contains("new ") && !line.strip().startsWith("/") ? 1 : 0;
            made -= FIELD_MADE.matcher(line).matches() ? 1 : 0;
        }
        for (Method method : methods) {
            for (String line : method.body) {
                boolean makes = line.contains("new ") && !line.strip().startsWith("/");
                checks.isTrue("rule 12: " + method.name + " makes something", !makes || method.isConstructor());
                made -= makes && method.isConstructor() ? 1 : 0;
            }
        }
        checks.due("rule 12: things made outside fields and constructors", made, 0);
    }

    private static void library(List<String> source) {
        for (String line : source) {
            Matcher m = LIBRARY.matcher(line);
            while (m.find()) {
                checks.isTrue("rule 4: " + m.group(), USED.contains(m.group(1)));
            }
        }
    }
}
