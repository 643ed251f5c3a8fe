import java.io.IOException;
import java.lang.reflect.Method;
import java.nio.file.Files;
import java.nio.file.Path;
import java.util.HashMap;
import java.util.List;
import java.util.Map;
import java.util.regex.Matcher;
import java.util.regex.Pattern;
import java.util.stream.Stream;

/** Does the run that README.md shows, line by line on one object: each answer that it names is the class's. */
public final class ReadmeTest {
    private static final Pattern CALL = Pattern.compile("grate\\.(\\w+)\\(([-0-9, ]*)\\); +// ([-0-9]+|[A-Z]+)(: .*)?");
    private static final Pattern TEXT = Pattern.compile("for \\(char c : \"([^\"]*)\"\\.toCharArray\\(\\)\\) \\{");
    private static final String MADE = "CoalGrate grate = new CoalGrate();";
    private static final String FED = "    grate.feed(c);";
    private static final int LEAST_CALLS = 60, MOST_CALLS = 512;

    private static final Map<String, Method> methods = new HashMap<>();
    private static CoalGrate grate;
    private static String text = "";
    private static int calls = 0;
    private static int wrong = 0;

    private static void tell(String what) {
        wrong++;
        System.out.println("README.md: " + what);
    }

    private static int number(String shown) {
        switch (shown) {
            case "NONE": return CoalGrate.NONE;
            case "BAD": return CoalGrate.BAD;
            case "STATE": return CoalGrate.STATE;
            case "FULL": return CoalGrate.FULL;
            default: return Integer.parseInt(shown);
        }
    }

    private static void call(String line, Matcher shown) throws ReflectiveOperationException {
        Method method = methods.get(shown.group(1));
        String[] told = shown.group(2).isEmpty() ? new String[0] : shown.group(2).split(", ");
        if (method == null || method.getParameterCount() != told.length) {
            tell("no such call: " + line);
            return;
        }
        Object[] arguments = new Object[told.length];
        for (int i = 0; i < told.length; i++) {
            arguments[i] = Integer.valueOf(told[i]);
        }
        int got = (Integer) method.invoke(grate, arguments);
        calls++;
        if (got != number(shown.group(3))) {
            tell(line + " answered " + got);
        }
    }

    private static void feed() {
        for (char c : text.toCharArray()) {
            grate.feed(c);
            calls++;
        }
    }

    private static void line(String line) throws ReflectiveOperationException {
        Matcher call = CALL.matcher(line);
        Matcher told = TEXT.matcher(line);
        if (line.equals(MADE)) {
            grate = new CoalGrate();
        } else if (told.matches()) {
            text = told.group(1);
        } else if (line.equals(FED)) {
            feed();
        } else if (call.matches()) {
            call(line, call);
        } else if (!line.equals("}")) {
            tell("a line that is not understood: " + line);
        }
    }

    private static void run(List<String> page) throws ReflectiveOperationException {
        boolean inside = false;
        for (String line : page) {
            if (line.startsWith("```")) {
                inside = line.equals("```java");
            } else if (inside) {
                line(line);
            }
        }
    }

    /** The numbers of the table, in its own words. */
    private static void constants(String page) {
        String[] names = {"NONE", "BAD", "STATE", "FULL"};
        for (String name : names) {
            if (!page.contains("`" + name + "` = " + number(name) + " ")) {
                tell(name + " is not told as " + number(name));
            }
        }
    }

    private static void everyTestIsNamed(String page) throws IOException {
        try (Stream<Path> tests = Files.list(Path.of("src/test/java"))) {
            for (Path test : (Iterable<Path>) tests::iterator) {
                String name = test.getFileName().toString().replace(".java", "");
                if (!page.contains("`" + name + "`")) {
                    tell(name + " is not named");
                }
            }
        }
    }

    public static void main(String[] args) throws IOException, ReflectiveOperationException {
        for (Method method : CoalGrate.class.getDeclaredMethods()) {
            methods.put(method.getName(), method);
        }
        List<String> page = Files.readAllLines(Path.of("README.md"));
        run(page);
        constants(String.join("\n", page));
        everyTestIsNamed(String.join("\n", page));
        if (calls < LEAST_CALLS || calls > MOST_CALLS) {
            tell(calls + " calls are shown");
        }
        System.out.println(calls + " calls of the page, " + wrong + " wrong");
        if (wrong != 0) {
            System.exit(1);
        }
    }
}
