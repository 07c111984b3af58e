import java.io.IOException;
import java.nio.file.DirectoryStream;
import java.nio.file.Files;
import java.nio.file.Path;
import java.util.HashSet;
import java.util.List;
import java.util.Set;
import java.util.TreeSet;
import java.util.regex.Matcher;
import java.util.regex.Pattern;

/** README.md tells the truth: its calls answer as told behind them, and no call and no test is left out. */
final class ReadmeTest {
    private static final Pattern CALL = Pattern.compile("beach\\.(\\w+)\\((.*)\\); +// (-?\\d+|[A-Z]+)(?:: .*)?");
    private static final String[] NAMES = {
        "write", "wipe", "fault", "lay", "drift", "worlds", "ashore", "find", "from", "parted", "report", "there", "missed",
        "left", "hope", "walk", "walks", "number", "fell", "most", "glass", "life", "whose", "two", "show", "cost", "parting",
        "shown", "keep", "back", "count"};

    private static final Checks checks = new Checks("ReadmeTest");

    public static void main(String[] args) throws IOException {
        List<String> lines = Files.readAllLines(Path.of("README.md"));
        Set<String> called = runExamples(lines);
        for (String name : NAMES) {
            checks.holds("an example calls " + name, called.contains(name));
        }
        checkTests(lines);
        checks.holds("it says how to run the tests", lines.contains("    .ci/run"));
        checks.end();
    }

    private static void checkTests(List<String> lines) throws IOException {
        Set<String> told = new TreeSet<>();
        for (String line : lines) {
            if (line.startsWith("| `")) {
                told.add(line.substring(3, line.indexOf('`', 3)) + ".java");
            }
        }
        Set<String> tests = new TreeSet<>();
        try (DirectoryStream<Path> files = Files.newDirectoryStream(Path.of("src/test/java"), "*Test.java")) {
            for (Path file : files) {
                tests.add(file.getFileName().toString());
            }
        }
        checks.holds("rows tell of " + told + ", there are " + tests, told.equals(tests));
    }

    /** The examples are one run of calls: what one block leaves, the next one finds. */
    private static Set<String> runExamples(List<String> lines) {
        Set<String> called = new HashSet<>();
        Face beach = null;
        boolean inExample = false;
        for (String line : lines) {
            if (line.startsWith("```")) {
                inExample = line.equals("```java");
            } else if (inExample && line.startsWith("GaleBeach beach = new GaleBeach();")) {
                beach = Face.gale();
            } else if (inExample) {
                Matcher call = CALL.matcher(line);
                checks.holds("a call with its answer: " + line, beach != null && call.matches());
                if (beach != null && call.matches()) {
                    called.add(call.group(1));
                    checks.due(line, beach.call(call.group(1), arguments(call.group(2))), answer(call.group(3)));
                }
            }
        }
        return called;
    }

    private static long[] arguments(String told) {
        String[] parts = told.isEmpty() ? new String[0] : told.split(", ");
        long[] all = new long[parts.length];
        for (int i = 0; i < all.length; i++) {
            all[i] = argument(parts[i]);
        }
        return all;
    }

    private static long argument(String told) {
        if (told.equals("true") || told.equals("false")) {
            return told.equals("true") ? 1 : 0;
        }
        if (told.startsWith("'")) {
            return told.charAt(1);
        }
        return Long.decode(told.endsWith("L") ? told.substring(0, told.length() - 1) : told);
    }

    private static long answer(String told) {
        switch (told) {
            case "BAD":
                return GaleBeach.BAD;
            case "NO":
                return GaleBeach.NO;
            case "NONE":
                return GaleBeach.NONE;
            case "FULL":
                return GaleBeach.FULL;
            default:
                return Long.parseLong(told);
        }
    }
}
