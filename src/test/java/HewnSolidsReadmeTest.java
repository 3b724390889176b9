import java.lang.reflect.Method;
import java.lang.reflect.Modifier;
import java.nio.file.DirectoryStream;
import java.nio.file.Files;
import java.nio.file.Path;
import java.util.Set;
import java.util.TreeSet;
import java.util.regex.Matcher;
import java.util.regex.Pattern;

/** What README.md shows of calls and answers is what the class answers, and it leaves no call and no test out. */
public final class HewnSolidsReadmeTest {
    private static final Path README = Path.of("README.md");
    private static final Path TESTS = Path.of("src", "test", "java");
    private static final String NEW_OBJECT = "HewnSolids cube = new HewnSolids();";
    private static final Pattern CALL =
            Pattern.compile("cube\\.(\\w+)\\(([^()]*)\\);\\s*// (-?\\d+|BAD|NO|true|false)(:.*)?");

    private final Check check = new Check();
    private final Set<String> shown = new TreeSet<>();
    private HewnSolids cube;

    public static void main(String[] args) throws Exception {
        HewnSolidsReadmeTest test = new HewnSolidsReadmeTest();
        test.callsAnswerWhatStandsBehindThem();
        test.allOfTheFaceIsShown();
        test.allTestsAreNamed();
        test.check.finish();
    }

    private void callsAnswerWhatStandsBehindThem() throws Exception {
        boolean example = false;
        for (String line : Files.readAllLines(README)) {
            if (line.startsWith("```")) {
                example = line.equals("```java");
            } else if (example) {
                dueLine(line);
            }
        }
    }

    private void dueLine(String line) throws Exception {
        if (line.equals(NEW_OBJECT)) {
            cube = new HewnSolids();
            return;
        }
        Matcher call = CALL.matcher(line);
        boolean read = call.matches();
        check.due("README.md: '" + line + "' is a call of the object with its answer", true, read && cube != null);
        if (read && cube != null) {
            shown.add(call.group(1));
            check.due("README.md: " + line, number(call.group(3)), answer(call.group(1), call.group(2)));
        }
    }

    private long answer(String name, String arguments) throws Exception {
        String[] texts = arguments.isEmpty() ? new String[0] : arguments.split(", ");
        Class<?>[] types = new Class<?>[texts.length];
        Object[] values = new Object[texts.length];
        for (int i = 0; i < texts.length; i++) {
            boolean truth = texts[i].equals("true") || texts[i].equals("false");
            types[i] = truth ? boolean.class : int.class;
            values[i] = truth ? (Object) Boolean.valueOf(texts[i]) : (Object) Integer.valueOf(texts[i]);
        }
        return number(String.valueOf(HewnSolids.class.getMethod(name, types).invoke(cube, values)));
    }

    private static long number(String answer) {
        return switch (answer) {
            case "BAD" -> HewnSolids.BAD;
            case "NO" -> HewnSolids.NO;
            case "true" -> 1;
            case "false" -> 0;
            default -> Long.parseLong(answer);
        };
    }

    private void allOfTheFaceIsShown() {
        for (Method method : HewnSolids.class.getDeclaredMethods()) {
            if (Modifier.isPublic(method.getModifiers())) {
                check.due("README.md shows " + method.getName(), true, shown.contains(method.getName()));
            }
        }
    }

    private void allTestsAreNamed() throws Exception {
        String text = Files.readString(README);
        check.due("README.md says how to run the tests", true, text.contains("\n.ci/run\n"));
        try (DirectoryStream<Path> tests = Files.newDirectoryStream(TESTS, "*Test.java")) {
            for (Path test : tests) {
                String name = test.getFileName().toString().replace(".java", "");
                check.due("README.md names " + name, true, text.contains("`" + name + "`"));
            }
        }
    }
}
