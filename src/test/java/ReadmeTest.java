import java.io.IOException;
import java.lang.reflect.Method;
import java.nio.file.Files;
import java.nio.file.Path;
import java.util.ArrayList;
import java.util.Arrays;
import java.util.HashMap;
import java.util.List;
import java.util.Map;
import java.util.Set;
import java.util.TreeMap;
import java.util.TreeSet;
import java.util.regex.Matcher;
import java.util.regex.Pattern;
import java.util.stream.Stream;

/**
 * README.md holds of the class: its example answers as it says, its codes have these values, and its
 * table of calls says of each what the document says. Run in the project's directory.
 */
public final class ReadmeTest {
    private static final Check CHECK = new Check("ReadmeTest");
    private static final Path README = Path.of("README.md");
    private static final Path DOCUMENT = Path.of("../shared/DOC.md");
    private static final Path TESTS = Path.of("src/test/java");
    private static final Pattern CODE = Pattern.compile("\\b(NONE|BAD_INDEX|BAD_VALUE|BAD_STATE|FULL)\\b");
    private static final Pattern EXAMPLE = Pattern.compile("```java\n(.*?)```", Pattern.DOTALL);
    private static final Pattern EXAMPLE_CALL = Pattern.compile(
            "(?:int (\\w+) = )?survey\\.(\\w+)\\(([^)]*)\\); +// (-?\\d+)\\b(.*)");
    private static final Pattern CODE_ROW = Pattern.compile("(?m)^\\| `(\\w+)` \\| (-\\d+) \\| .* \\|$");
    private static final Pattern CALL_ROW = Pattern.compile(
            "(?m)^\\| `([^`]*\\))` \\| .* \\| (yes|no) \\| ([^|]*)\\|$");
    private static final Pattern TEST_ROW = Pattern.compile("(?m)^\\| `(\\w+Test)` \\|");
    private static final Pattern PROMISE = Pattern.compile(
            "## Promise \\d+: [^\n]*\n\n`([^`]*)`\n(.*?)(?=\n## |$)", Pattern.DOTALL);

    public static void main(String[] args) throws Exception {
        String readme = Files.readString(README);
        example(readme);
        codes(readme);
        if (Files.exists(DOCUMENT)) {
            calls(readme, Files.readString(DOCUMENT));
        } else {
            System.out.println("ReadmeTest: " + DOCUMENT + " is not there, the table of calls is not compared");
        }
        newObject();
        tests(readme);
        CHECK.end();
    }

    /** Each line of the example is called on one object, and answers the number of its comment. */
    private static void example(String readme) throws Exception {
        Matcher block = EXAMPLE.matcher(readme);
        CHECK.due("the example is there", 1, block.find() ? 1 : 0);
        TrapSurvey survey = new TrapSurvey();
        Map<String, Integer> names = new HashMap<>();
        String[] lines = block.group(1).split("\n");
        CHECK.same("the first line", "TrapSurvey survey = new TrapSurvey();", lines[0]);
        for (int i = 1; i < lines.length; i++) {
            Matcher call = EXAMPLE_CALL.matcher(lines[i]);
            CHECK.due("a call is in '" + lines[i] + "'", 1, call.matches() ? 1 : 0);
            long got = answer(survey, call.group(2), arguments(call.group(3), names));
            CHECK.due(lines[i], Long.parseLong(call.group(4)), got);
            Matcher code = CODE.matcher(call.group(5));
            if (code.find()) {
                CHECK.due(lines[i], TrapSurvey.class.getField(code.group()).getInt(null), got);
            }
            if (call.group(1) != null) {
                names.put(call.group(1), (int) got);
            }
        }
    }

    private static Object[] arguments(String told, Map<String, Integer> names) {
        List<Object> all = new ArrayList<>();
        for (String argument : told.split(", ")) {
            if (!argument.isEmpty()) {
                all.add(names.containsKey(argument) ? names.get(argument) : Integer.valueOf(argument));
            }
        }
        return all.toArray();
    }

    private static long answer(TrapSurvey survey, String name, Object[] arguments) throws Exception {
        Class<?>[] types = new Class<?>[arguments.length];
        Arrays.fill(types, int.class);
        Method method = TrapSurvey.class.getMethod(name, types);
        return ((Number) method.invoke(survey, arguments)).longValue();
    }

    /** The table of the codes, in the order in which errors come first. */
    private static void codes(String readme) throws Exception {
        Matcher row = CODE_ROW.matcher(readme);
        List<String> order = new ArrayList<>();
        while (row.find()) {
            order.add(row.group(1));
            CHECK.due(row.group(1), TrapSurvey.class.getField(row.group(1)).getInt(null), Long.parseLong(row.group(2)));
        }
        CHECK.same("the codes", "[NONE, BAD_INDEX, BAD_VALUE, BAD_STATE, FULL]", order.toString());
    }

    private static Set<String> codesIn(String text) {
        Set<String> all = new TreeSet<>();
        Matcher code = CODE.matcher(text);
        while (code.find()) {
            all.add(code.group());
        }
        return all;
    }

    /** Each promise's signature, whether it is recorded, and its codes, as the document tells them. */
    private static void calls(String readme, String document) {
        Map<String, String> want = new TreeMap<>();
        Matcher promise = PROMISE.matcher(document);
        while (promise.find()) {
            String recorded = promise.group(2).contains("Recorded") ? "yes " : "no ";
            want.put(promise.group(1), recorded + codesIn(promise.group(2)));
        }
        Map<String, String> got = new TreeMap<>();
        Matcher row = CALL_ROW.matcher(readme);
        while (row.find()) {
            got.put(row.group(1), row.group(2) + " " + codesIn(row.group(3)));
        }
        CHECK.due("the promises of the document", 34, want.size());
        CHECK.same("the table of calls", want.toString(), got.toString());
    }

    /** "A new object is on the day 0. .." */
    private static void newObject() {
        TrapSurvey x = new TrapSurvey();
        CHECK.same("a new object", "counts 0 0 24 20 90 0 0 0 / header 10 / header 10 / header 10", Picture.of(x));
        CHECK.due("clearText()", 0, x.clearText());
        CHECK.due("undo()", Check.BAD_STATE, x.undo());
        Build.typed(x, "0:160/100@30; 1:160/145");
        x.addLine(0);
        x.addTrap(0, Build.BUCKET, 3, 5, 0);
        x.addTrap(0, Build.THERMOSTATIC, 2, 5, 10);
        CHECK.due("readAll() of the text of this page", 2, x.readAll());
    }

    private static void tests(String readme) throws IOException {
        Set<String> told = new TreeSet<>();
        Matcher row = TEST_ROW.matcher(readme);
        while (row.find()) {
            told.add(row.group(1));
        }
        Set<String> there = new TreeSet<>();
        try (Stream<Path> files = Files.list(TESTS)) {
            files.map(file -> file.getFileName().toString()).filter(name -> name.endsWith("Test.java"))
                    .forEach(name -> there.add(name.replace(".java", "")));
        }
        CHECK.same("the list of tests", there.toString(), told.toString());
    }
}
