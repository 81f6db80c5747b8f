import java.lang.reflect.Method;
import java.lang.reflect.Modifier;
import java.nio.charset.StandardCharsets;
import java.nio.file.Files;
import java.nio.file.Path;
import java.util.ArrayList;
import java.util.List;
import java.util.TreeMap;
import java.util.TreeSet;
import java.util.regex.MatchResult;
import java.util.regex.Matcher;
import java.util.regex.Pattern;

/**
 * What README.md shows, taken from the file itself: each call has the answer behind it, each text is the one that is fed,
 * each line of the table of makings has the rows that it tells. A line of an example that can't be run is a fault too,
 * so that nothing is shown untested.
 */
public final class ReadmeTest {
    private static final Path README = Path.of("README.md");
    private static final Pattern CALL = Pattern.compile("x\\.(\\w+)\\((.*?)\\); +// (-?[0-9]+)(: \\S.*)?");
    private static final Pattern TEXT = Pattern.compile("// the text \"(.*)\"");
    private static final Pattern MAKING = Pattern.compile("\\| `(c=(\\w+) [^`]*)` \\| .* \\| `([^`]*)` \\|");
    private static final Pattern SETTING = Pattern.compile(
        "the table c has behind `([^`]*)`, when a has the rows\\s+`([^`]*)` and b the row `([^`]*)`");
    private static final Pattern ROW = Pattern.compile("([0-9]+):(-?[0-9]+)@([0-9]+)");
    private static final String KINDS = "source where plus times rekey window ever sum count max last join less";
    private static final int MOST_CALLS = 512;

    private final TreeMap<String, Method> face = new TreeMap<>();
    private final TreeSet<String> shown = new TreeSet<>();
    private TableStreams x;
    private String tape;
    private String text;
    private int calls;

    private ReadmeTest() {
        for (Method m : TableStreams.class.getDeclaredMethods()) {
            if (Modifier.isPublic(m.getModifiers())) {
                face.put(m.getName(), m);
            }
        }
    }

    public static void main(String[] args) throws Exception {
        String readme = Files.readString(README, StandardCharsets.UTF_8);
        new ReadmeTest().examples(readme);
        makings(readme);
        Check.due("README.md tells how to run the tests", readme.contains("```sh\n.ci/run\n```") ? 1 : 0, 1);
        testsAreTold(readme);
        Check.finish();
    }

    private void examples(String readme) throws Exception {
        boolean isExample = false;
        String[] lines = readme.split("\n", -1);
        for (int i = 0; i < lines.length; i++) {
            String where = "README.md, line " + (i + 1) + ": ";
            if (lines[i].startsWith("```")) {
                isExample = lines[i].equals("```java");
                x = null;
            } else if (isExample) {
                example(where, lines[i]);
            } else {
                Check.due(where + "calls outside the examples", lines[i].contains("x.") ? 1 : 0, 0);
            }
        }
        Check.due("the calls that README.md shows", shown.toString(), face.keySet().toString());
    }

    private void example(String where, String line) throws Exception {
        if (line.equals("TableStreams x = new TableStreams();")) {
            x = new TableStreams();
            tape = "";
            text = "";
            calls = 0;
            return;
        }
        Matcher told = TEXT.matcher(line);
        if (told.matches()) {
            text = told.group(1);
            return;
        }
        Matcher call = CALL.matcher(line);
        boolean canRun = x != null && call.matches() && face.containsKey(call.group(1));
        Check.due(where + "can be run, or is a text: " + line, canRun ? 1 : 0, 1);
        if (canRun) {
            int want = Integer.parseInt(call.group(3));
            Check.due(where + line, ask(where, call.group(1), call.group(2)), want);
        }
    }

    private int ask(String where, String name, String listed) throws Exception {
        String[] parts = listed.isEmpty() ? new String[0] : listed.split(", ");
        Object[] arguments = new Object[parts.length];
        for (int i = 0; i < parts.length; i++) {
            arguments[i] = argument(parts[i]);
        }
        if (name.equals("tables")) {
            Check.due(where + "the text on the tape", tape, text);
        }
        int answer = (Integer) face.get(name).invoke(x, arguments);
        follow(name, arguments, answer);
        shown.add(name);
        calls++;
        Check.due(where + "at most " + MOST_CALLS + " calls on an object", calls <= MOST_CALLS ? 1 : 0, 1);
        return answer;
    }

    private static Object argument(String part) {
        if (part.equals("true") || part.equals("false")) {
            return Boolean.valueOf(part);
        }
        if (part.equals("TableStreams.NONE")) {
            return TableStreams.NONE;
        }
        return part.startsWith("0x") ? Integer.parseUnsignedInt(part.substring(2), 16) : Integer.parseInt(part);
    }

    /** What is on the tape, apart from the program. */
    private void follow(String name, Object[] arguments, int answer) {
        if (name.equals("tables")) {
            tape = "";
        } else if (name.equals("end") && answer >= 0) {
            tape = tape.substring(0, answer);
        } else if (name.equals("feed") && answer >= 0) {
            StringBuilder s = new StringBuilder(tape);
            for (Object number : arguments) {
                for (int shift = 24; shift >= 0; shift -= 8) {
                    s.append((char) ((Integer) number >>> shift & 255));
                }
            }
            tape = s.toString();
        }
    }

    private static void makings(String readme) {
        Matcher setting = SETTING.matcher(readme);
        boolean isTold = setting.find();
        Check.due("README.md tells what a and b have", isTold ? 1 : 0, 1);
        List<String> kinds = new ArrayList<>();
        Matcher making = MAKING.matcher(readme);
        while (isTold && making.find()) {
            kinds.add(making.group(2));
            TableStreams x = new TableStreams();
            Check.due("tables() of " + making.group(1), Check.make(x, setting.group(1) + making.group(1)), 3);
            tell(x, 0, setting.group(2));
            tell(x, 1, setting.group(3));
            Check.due("read(150) of " + making.group(1), x.read(150), x.count(0));
            Check.due("a, by " + making.group(1), Check.rows(x, 0), setting.group(2));
            Check.due("b, by " + making.group(1), Check.rows(x, 1), setting.group(3));
            Check.due("c, by " + making.group(1), Check.rows(x, 2), making.group(3));
        }
        Check.due("the makings that README.md shows", String.join(" ", kinds), KINDS);
    }

    private static void tell(TableStreams x, int source, String rows) {
        for (MatchResult row : ROW.matcher(rows).results().toList()) {
            x.tell(source, Integer.parseInt(row.group(1)), Integer.parseInt(row.group(2)), Integer.parseInt(row.group(3)));
        }
    }

    private static void testsAreTold(String readme) throws Exception {
        try (var files = Files.newDirectoryStream(Path.of("src/test/java"), "*Test.java")) {
            for (Path file : files) {
                String name = file.getFileName().toString().replace(".java", "");
                Check.due("README.md tells of " + name, readme.contains("`" + name + "`") ? 1 : 0, 1);
            }
        }
    }
}
