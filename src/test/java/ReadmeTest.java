import java.io.IOException;
import java.lang.reflect.Method;
import java.lang.reflect.Modifier;
import java.nio.file.Files;
import java.nio.file.Path;
import java.nio.file.Paths;
import java.util.ArrayList;
import java.util.Collections;
import java.util.List;
import java.util.regex.Matcher;
import java.util.regex.Pattern;
import java.util.stream.Stream;
import javax.tools.ToolProvider;

/** What README.md tells holds: its run answers what the remarks tell, and its table names each test. */
public final class ReadmeTest {
    /** A call, perhaps kept in a variable, with a remark. */
    private static final Pattern CALL = Pattern.compile("(?:\\w+ (\\w+) = )?(land\\.\\w+\\(.*\\)); *// (.*)");
    private static final Pattern ANSWER = Pattern.compile("(-?\\d+|true|false)\\b.*");
    private static final Pattern EXCEPTION = Pattern.compile("throws (\\w+)\\b.*");
    private static final Pattern ROW = Pattern.compile("\\| (\\w+Test) \\|.*");

    private ReadmeTest() {
    }

    public static void main(String[] args) throws Exception {
        List<String> page = Files.readAllLines(Paths.get("README.md"));
        run(example(page));
        eachCallIsShown(page);
        eachTestIsNamed(page);
        Check.end("ReadmeTest");
    }

    /** The java of the page, with a check behind each call of which a remark tells the answer. */
    private static String example(List<String> page) {
        StringBuilder body = new StringBuilder();
        int checked = 0;
        boolean isJava = false;
        for (int i = 0; i < page.size(); i++) {
            String line = page.get(i);
            if (line.startsWith("```")) {
                isJava = line.equals("```java");
            } else if (isJava) {
                String check = checked("README.md, line " + (i + 1), line);
                checked += check.equals(line) ? 0 : 1;
                body.append(check).append('\n');
            }
        }
        Check.due("answers are told", checked > 0, true);
        return "public final class ReadmeRun {\npublic static void run() {\n" + body + "}\n}\n";
    }

    private static String checked(String where, String line) {
        Matcher call = CALL.matcher(line);
        if (!call.matches()) {
            return line;
        }
        Matcher answer = ANSWER.matcher(call.group(3));
        Matcher exception = EXCEPTION.matcher(call.group(3));
        if (exception.matches()) {
            return "Check.fails(\"" + where + "\", " + exception.group(1) + ".class, () -> " + call.group(2) + ");";
        }
        if (!answer.matches()) {
            return line;
        }
        boolean isKept = call.group(1) != null;
        return (isKept ? line + "\n" : "") + "Check.due(\"" + where + "\", " + (isKept ? call.group(1) : call.group(2))
            + ", " + answer.group(1) + ");";
    }

    /** Compiles the run next to this test, so that it is loaded with Check, which counts its wrong answers. */
    private static void run(String source) throws Exception {
        Path classes = Path.of(ReadmeTest.class.getProtectionDomain().getCodeSource().getLocation().toURI());
        Path file = classes.resolve("ReadmeRun.java");
        Files.writeString(file, source);
        int failed = ToolProvider.getSystemJavaCompiler().run(null, null, null,
            "-cp", System.getProperty("java.class.path"), "-d", classes.toString(), file.toString());
        Check.due("the run of README.md compiles", failed, 0);
        if (failed == 0) {
            Class.forName("ReadmeRun").getMethod("run").invoke(null);
        }
    }

    private static void eachCallIsShown(List<String> page) {
        for (Method method : NameLand.class.getDeclaredMethods()) {
            if (Modifier.isPublic(method.getModifiers())) {
                boolean isShown = page.stream().anyMatch(line -> line.contains("land." + method.getName() + "("));
                Check.due("a use of " + method.getName(), isShown, true);
            }
        }
    }

    private static void eachTestIsNamed(List<String> page) throws IOException {
        List<String> named = new ArrayList<>();
        for (String line : page) {
            Matcher row = ROW.matcher(line);
            if (row.matches()) {
                named.add(row.group(1));
            }
        }
        List<String> tests = new ArrayList<>();
        try (Stream<Path> files = Files.list(Paths.get("src/test/java"))) {
            files.map(file -> file.getFileName().toString()).filter(name -> name.endsWith("Test.java"))
                .forEach(name -> tests.add(name.substring(0, name.length() - ".java".length())));
        }
        Collections.sort(named);
        Collections.sort(tests);
        Check.due("the tests that the table names", named.toString(), tests.toString());
    }
}
