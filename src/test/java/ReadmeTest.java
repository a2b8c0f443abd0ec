import java.io.IOException;
import java.lang.reflect.InvocationTargetException;
import java.lang.reflect.Method;
import java.lang.reflect.Modifier;
import java.nio.file.Files;
import java.nio.file.Path;
import java.util.ArrayList;
import java.util.HashMap;
import java.util.List;
import java.util.Map;
import java.util.Set;
import java.util.TreeSet;
import java.util.regex.Matcher;
import java.util.regex.Pattern;

/** README.md says nothing that does not hold: its example is run line by line, its readings are tried. */
public final class ReadmeTest {
    private static final Pattern MADE = Pattern.compile("CaseLists lists = new CaseLists\\((\\d+)\\); +// .*");
    private static final Pattern CALL = Pattern.compile(
            "(?:(int|boolean) (\\w+) = )?lists\\.(\\w+)\\(([^()]*)\\); +// ([-\\w]+)(?:: .*)?");

    private final Map<String, Object> names = new HashMap<>();
    private final Set<String> called = new TreeSet<>();
    private CaseLists lists;

    public static void main(String[] args) throws IOException, IllegalAccessException {
        ReadmeTest example = new ReadmeTest();
        for (String line : exampleLines()) {
            example.run(line);
        }
        for (Method m : CaseLists.class.getDeclaredMethods()) {
            if (Modifier.isPublic(m.getModifiers())) {
                Check.due("the example calls " + m.getName(), true, example.called.contains(m.getName()));
            }
        }
        namesEveryTest();
        knownCaseOfTwentyFour();
        changeBeforeTheCase();
        actThatShowsNothing();
        planAsItWasMade();
        provesBehindTheLastDay();
        Check.end();
    }

    private static List<String> exampleLines() throws IOException {
        List<String> lines = new ArrayList<>();
        boolean inside = false;
        for (String line : Files.readAllLines(Path.of("README.md"))) {
            if (line.startsWith("```")) {
                inside = line.equals("```java");
            } else if (inside) {
                lines.add(line);
            }
        }
        Check.due("README.md has an example", false, lines.isEmpty());
        return lines;
    }

    private void run(String line) throws IllegalAccessException {
        Matcher made = MADE.matcher(line);
        if (made.matches()) {
            lists = new CaseLists(Integer.parseInt(made.group(1)));
            return;
        }
        Matcher call = CALL.matcher(line);
        boolean plain = lists != null && call.matches();
        Check.due("a plain call: " + line, true, plain);
        if (plain) {
            compare(line, call);
        }
    }

    private void compare(String line, Matcher call) throws IllegalAccessException {
        Method method = methodOf(call.group(3));
        Check.due("there is such a call: " + line, true, method != null);
        if (method == null) {
            return;
        }
        called.add(method.getName());
        Object answer = answerOf(method, call.group(4));
        Check.due(line + " (it answered " + answer + ")", true, answer.toString().equals(call.group(5)));
        if (call.group(1) != null) {
            Check.due("its type: " + line, true, method.getReturnType().getName().equals(call.group(1)));
            Check.due("a new name: " + line, true, names.put(call.group(2), answer) == null);
        }
    }

    private static Method methodOf(String name) {
        for (Method m : CaseLists.class.getDeclaredMethods()) {
            if (Modifier.isPublic(m.getModifiers()) && m.getName().equals(name)) {
                return m;
            }
        }
        return null;
    }

    private Object answerOf(Method method, String words) throws IllegalAccessException {
        String[] parts = words.isEmpty() ? new String[0] : words.split(", ");
        Object[] values = new Object[parts.length];
        for (int i = 0; i < parts.length; i++) {
            values[i] = valueOf(parts[i]);
        }
        try {
            return method.invoke(lists, values);
        } catch (InvocationTargetException e) {
            return e.getCause().getClass().getSimpleName();
        }
    }

    private Object valueOf(String word) {
        if (word.equals("true") || word.equals("false")) {
            return Boolean.valueOf(word);
        }
        if (word.equals("CaseLists.NONE")) {
            return CaseLists.NONE;
        }
        return names.containsKey(word) ? names.get(word) : Integer.valueOf(word);
    }

    private static void namesEveryTest() throws IOException {
        String readme = Files.readString(Path.of("README.md"));
        try (var files = Files.newDirectoryStream(Path.of("src/test/java"), "*Test.java")) {
            for (Path file : files) {
                String name = "`" + file.getFileName().toString().replace(".java", "") + "`";
                Check.due("README.md names " + name, true, readme.contains(name));
            }
        }
        Matcher named = Pattern.compile("`(\\w+Test)`").matcher(readme);
        while (named.find()) {
            Path file = Path.of("src/test/java", named.group(1) + ".java");
            Check.due("there is " + file, true, Files.exists(file));
        }
    }

    private static void knownCaseOfTwentyFour() {
        CaseLists x = Samples.withCases(10, 24);
        Check.due("a case that is there", 23, () -> x.fault(23, CaseLists.NONE));
        Check.illegalState("one that is not", () -> x.fault(24, CaseLists.NONE));
    }

    private static void changeBeforeTheCase() {
        CaseLists x = Samples.withCases(10, 1);
        Check.due("the case that is there", 1, () -> x.change(0, 5));
        x.fault(0, 1);
        Check.due("it was touched", 5, () -> x.touched(0, 9));
        Check.due("the one that came later was not", CaseLists.NONE, () -> x.touched(1, 9));
    }

    private static void actThatShowsNothing() {
        CaseLists x = Samples.withCases(10, 2);
        Samples.addAct(x, 0, 1, 0);
        Samples.addAct(x, 1, 1, 1);
        Samples.addAct(x, 2, 1);
        x.way(0, 1, 10);
        Check.due("by the place between", 3, () -> x.plan(0));
        Check.due("the act there", 2, () -> x.planned(1));
        Check.due("it is shorter", 3, () -> x.seconds());
    }

    private static void planAsItWasMade() {
        CaseLists x = Samples.withCases(10, 2);
        Samples.addAct(x, 0, 1, 0);
        Samples.addAct(x, 1, 1, 1);
        x.plan(0);
        x.way(0, 1, 10);
        x.shows(0, 0, false);
        Check.due("seconds behind a new way", 2, () -> x.seconds());
        Check.due("its first act shows no case any more", 0, () -> x.planned(0));
        Check.due("its second act", 1, () -> x.planned(1));
    }

    private static void provesBehindTheLastDay() {
        CaseLists x = Samples.withCases(10, 1);
        Samples.prove(x, 0, 100000);
        Check.due("the life ends behind it", 100011, () -> x.proves(0, 100000));
    }
}
