import java.io.File;
import java.util.regex.Matcher;
import java.util.regex.Pattern;

/** What README.md says is true: its example gets the answers that it tells, and the tests that it names are there. */
public final class ReadmeTest {
    private static final Pattern CALL = Pattern.compile("court\\.(\\w+)\\(([^)]*)\\);\\s*// ([^\\s:]+)(:.*)?");

    private static void example() {
        Trial.sentence("README.md: how to use it");
        Trial court = new Trial();
        int calls = 0;
        for (String line : Pages.javaExample("README.md")) {
            Matcher call = CALL.matcher(line);
            if (call.matches()) {
                court.due((call.group(1) + " " + call.group(2).replace(",", "")).trim(), call.group(3));
                calls++;
            } else if (!line.startsWith("RegressionCourt court = new RegressionCourt();")) {
                throw new AssertionError("this line tells no answer: " + line);
            }
        }
        if (calls == 0) throw new AssertionError("README.md has no example");
    }

    private static void tests() {
        Trial.sentence("README.md: how to run its tests");
        String text = Pages.text("README.md");
        File[] files = Pages.at("src/test/java").toFile().listFiles();
        if (files == null) throw new AssertionError("no tests in src/test/java");
        int there = 0;
        for (File file : files) {
            String name = file.getName().replace(".java", "");
            if (!name.endsWith("Test")) continue;
            there++;
            Trial.same(name + " stands in README.md", String.valueOf(text.contains("`" + name + "`")), "true");
        }
        long named = Pattern.compile("`\\w+Test`").matcher(text).results().map(found -> found.group()).distinct().count();
        Trial.same("how many tests README.md names", String.valueOf(named), String.valueOf(there));
    }

    public static void main(String[] args) {
        example();
        tests();
        Trial.close("ReadmeTest");
    }
}
