import java.lang.reflect.Method;
import java.lang.reflect.Modifier;
import java.nio.file.Files;
import java.nio.file.Path;
import java.util.List;
import java.util.Map;
import java.util.Set;
import java.util.TreeSet;
import java.util.regex.Matcher;
import java.util.regex.Pattern;

/** README.md: each call that it shows answers as it tells, and what it names is there. */
final class ReadmeTest {
    private static final Check C = new Check();
    private static final Pattern CALL = Pattern.compile("x\\.(\\w+)\\(([^()]*)\\); +// (-?\\d+)(: .*)?");
    private static final Pattern FINDING = Pattern.compile("\\| ([A-Z]+) +\\| (-\\d+) \\| (\\d) +\\| .*");
    private static final Map<String, Long> FINDINGS = Map.of(
        "BEYOND", Check.BEYOND, "FULL", Check.FULL, "KIND", Check.KIND, "NONE", Check.NONE, "STATE", Check.STATE,
        "MISSING", Check.MISSING, "SIZE", Check.SIZE);
    private static final Set<String> SHOWN = new TreeSet<>();

    public static void main(String[] args) throws Exception {
        String page = Files.readString(Path.of("README.md"));
        examples(page.lines().toList());
        everyCall(page);
        findings(page);
        tests(page);
        places(page);
        C.end();
    }

    /** Every line of a block must be understood, so that none is shown without having been called. */
    private static void examples(List<String> lines) {
        TubSteps x = null;
        boolean inside = false;
        for (int i = 0; i < lines.size(); i++) {
            String line = lines.get(i);
            C.sentence("README.md, line " + (i + 1));
            if (line.startsWith("```")) {
                inside = line.equals("```java");
                x = null;
            } else if (inside && line.equals("TubSteps x = new TubSteps();")) {
                x = new TubSteps();
            } else if (inside) {
                example(x, line);
            }
        }
    }

    private static void example(TubSteps x, String line) {
        Matcher m = CALL.matcher(line);
        boolean so = m.matches();
        C.holds("a call with its answer: " + line, so);
        C.holds("there is an object: " + line, x != null);
        if (!so || x == null) {
            return;
        }
        String[] told = m.group(2).isEmpty() ? new String[0] : m.group(2).split(", ");
        int[] values = new int[told.length];
        for (int i = 0; i < told.length; i++) {
            values[i] = Integer.decode(told[i]);
        }
        long answer = Calls.ask(x, m.group(1), values);
        C.due(Calls.told(m.group(1), values), answer, Long.parseLong(m.group(3)));
        SHOWN.add(m.group(1));
        // a finding that is named behind the answer must be that one
        for (Map.Entry<String, Long> each : FINDINGS.entrySet()) {
            if (m.group(4) != null && m.group(4).startsWith(": " + each.getKey())) {
                C.due("the finding that is named: " + line, answer, each.getValue());
            }
        }
    }

    private static void everyCall(String page) {
        C.sentence("every call is shown, in a block and by its name ahead of one");
        for (Method method : TubSteps.class.getDeclaredMethods()) {
            if (Modifier.isPublic(method.getModifiers())) {
                C.holds(method.getName() + " is shown", SHOWN.contains(method.getName()));
                C.holds(method.getName() + " is named", page.contains("`" + method.getName() + "`"));
            }
        }
    }

    private static void findings(String page) {
        C.sentence("the table of findings");
        int row = 0;
        for (String line : page.lines().toList()) {
            Matcher m = FINDING.matcher(line);
            if (m.matches()) {
                C.due(m.group(1), Long.parseLong(m.group(2)), FINDINGS.getOrDefault(m.group(1), 0L));
                C.due("status of " + m.group(1), Long.parseLong(m.group(3)), Check.BEYOND - Long.parseLong(m.group(2)));
                C.due("the row of " + m.group(1), Long.parseLong(m.group(3)), row);
                row++;
            }
        }
        C.due("how many findings are told", row, FINDINGS.size());
    }

    private static void tests(String page) throws Exception {
        C.sentence("every test is named");
        try (var files = Files.list(Path.of("src/test/java"))) {
            for (Path each : files.toList()) {
                String name = each.getFileName().toString().replace(".java", "");
                if (name.endsWith("Test")) {
                    C.holds(name, page.contains("`" + name + "`"));
                }
            }
        }
        Matcher m = Pattern.compile("`(\\w+Test)`").matcher(page);
        while (m.find()) {
            C.holds(m.group(1) + " is there", Files.exists(Path.of("src/test/java/" + m.group(1) + ".java")));
        }
    }

    private static void places(String page) {
        C.sentence("what is named is there");
        Matcher m = Pattern.compile("`((?:\\.\\./|src/|\\.ci/)[\\w./]*)`").matcher(page);
        int many = 0;
        while (m.find()) {
            many++;
            C.holds(m.group(1), Files.exists(Path.of(m.group(1))));
        }
        C.holds("some places are named", many >= 4);
    }
}
