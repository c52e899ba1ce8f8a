import java.io.IOException;
import java.nio.file.Files;
import java.nio.file.Path;
import java.util.ArrayList;
import java.util.HashMap;
import java.util.List;
import java.util.Map;
import java.util.Set;
import java.util.TreeSet;
import java.util.regex.Matcher;
import java.util.regex.Pattern;

/** README.md: its example answers as it says, its tables name every call, finding and test, its command is one. */
public final class ReadmeTest {
    private static final Pattern EXAMPLE_ROW =
        Pattern.compile("(?:int (\\w+) = )?house\\.(\\w+)\\(([^)]*)\\);\\s+// (-?\\d+)(?:: \\S.*)?");
    private static final Pattern CALL_ROW = Pattern.compile("\\| `(\\w+)\\(([^)]*)\\)` \\| .+ \\|(.*)\\|");
    private static final Pattern FACE_ROW = Pattern.compile("    public (?:int|long) (\\w+)\\((.*)\\) \\{");

    public static void main(String[] args) throws IOException {
        String readme = Files.readString(Path.of("README.md"));
        example(block(readme, "java"));
        calls(readme, Files.readString(Path.of("src/main/java/WarmthShared.java")));
        findings(readme);
        rule(readme);
        command(block(readme, "sh"));
        tests(readme);
        Check.end();
    }

    private static List<String> block(String readme, String language) {
        Matcher m = Pattern.compile("(?s)```" + language + "\n(.*?)```").matcher(readme);
        if (!m.find()) {
            Check.fail("README.md has no block of " + language);
            return List.of();
        }
        return m.group(1).lines().toList();
    }

    private static void example(List<String> rows) {
        WarmthShared house = new WarmthShared();
        Map<String, Long> named = new HashMap<>();
        Check.due("rows that make the object", rows.indexOf("WarmthShared house = new WarmthShared();"), 0);
        for (String row : rows.subList(1, rows.size())) {
            Matcher m = EXAMPLE_ROW.matcher(row);
            if (!m.matches()) {
                Check.fail("not a call with its answer: " + row);
                continue;
            }
            long got = Calls.ask(house, m.group(2), arguments(m.group(3), named));
            Check.due("README.md: " + row, got, Long.parseLong(m.group(4)));
            if (m.group(1) != null) {
                named.put(m.group(1), got);
            }
        }
    }

    private static long[] arguments(String text, Map<String, Long> named) {
        if (text.isEmpty()) {
            return new long[0];
        }
        String[] words = text.split(", ");
        long[] args = new long[words.length];
        for (int i = 0; i < args.length; i++) {
            String word = words[i];
            if (word.matches("'.'")) {
                args[i] = word.charAt(1);
            } else if (word.equals("true") || word.equals("false")) {
                args[i] = word.equals("true") ? 1 : 0;
            } else {
                args[i] = named.containsKey(word) ? named.get(word) : Long.parseLong(word);
            }
        }
        return args;
    }

    /** Each call with its arguments as the class has them, in its order, and its findings. */
    private static void calls(String readme, String source) {
        List<String> due = new ArrayList<>();
        Matcher face = FACE_ROW.matcher("");
        for (String row : source.lines().toList()) {
            if (face.reset(row).matches()) {
                due.add(face.group(1) + "(" + face.group(2).replaceAll("\\b(int|long|boolean) ", "") + ")");
            }
        }
        Check.due("calls of the class", due.size(), 38);
        List<String> told = new ArrayList<>();
        Set<String> refusing = new TreeSet<>();
        Matcher call = CALL_ROW.matcher("");
        for (String row : readme.lines().toList()) {
            if (call.reset(row).matches()) {
                told.add(call.group(1) + "(" + call.group(2) + ")");
                if (!call.group(3).isBlank()) {
                    refusing.add(call.group(1) + " " + call.group(3).trim().replace(",", ""));
                }
            }
        }
        if (!told.equals(due)) {
            Check.fail("README.md tells the calls " + told + ", the class " + due);
        }
        if (!refusing.equals(new TreeSet<>(List.of(RefusedTest.NAMED)))) {
            Check.fail("README.md tells the findings " + refusing);
        }
    }

    private static void findings(String readme) {
        Matcher row = Pattern.compile("(?m)^\\| (-10000000\\d\\d) \\| ([A-Z]+) \\| .+ \\|$").matcher(readme);
        int rows = 0;
        while (row.find()) {
            Check.due("README.md: " + row.group(2), Long.parseLong(row.group(1)), Calls.number(row.group(2)));
            rows++;
        }
        Check.due("findings in README.md", rows, 7);
    }

    private static void rule(String readme) {
        Matcher text = Pattern.compile("THE RULE is a text such as `([^`]+)`").matcher(readme);
        if (!text.find()) {
            Check.fail("README.md shows no rule");
            return;
        }
        Check.due("rule() of " + text.group(1), Check.rule(new WarmthShared(), text.group(1)), 0);
    }

    private static void command(List<String> rows) {
        Check.due("commands for the tests", rows.size(), 1);
        for (String row : rows) {
            if (!Files.isExecutable(Path.of(row))) {
                Check.fail("README.md names a command that can't be run: " + row);
            }
        }
    }

    private static void tests(String readme) throws IOException {
        Set<String> told = new TreeSet<>();
        Matcher row = Pattern.compile("(?m)^\\| (\\w+Test(?:, \\w+Test)*) \\| .+ \\|$").matcher(readme);
        while (row.find()) {
            told.addAll(List.of(row.group(1).split(", ")));
        }
        Set<String> there = new TreeSet<>();
        try (var files = Files.list(Path.of("src/test/java"))) {
            files.map(file -> file.getFileName().toString()).filter(name -> name.endsWith("Test.java"))
                .forEach(name -> there.add(name.replace(".java", "")));
        }
        if (!told.equals(there)) {
            Check.fail("README.md tells the tests " + told + ", there are " + there);
        }
    }
}
