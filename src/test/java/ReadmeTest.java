import java.io.File;
import java.io.IOException;
import java.lang.reflect.Method;
import java.util.ArrayList;
import java.util.List;
import java.util.Map;
import java.util.TreeMap;
import java.util.regex.Matcher;
import java.util.regex.Pattern;

/** That README.md shows every call with an answer, tells what each call throws, and names every test. */
public final class ReadmeTest extends Checks {
    private static final Pattern TOLD_IN_TABLE = Pattern.compile("\\| (`.*`) \\| (`.*Exception` if .*|nothing) \\|");
    private static final Pattern CALL = Pattern.compile("`(\\w+)`");
    private static final Pattern EXCEPTION = Pattern.compile("`(\\w+Exception)`");

    public static void main(String[] args) throws IOException {
        showsEveryCall();
        tellsWhatIsThrown();
        namesEveryTest();
        end();
    }

    private static void showsEveryCall() throws IOException {
        List<ReadmeCode.Row> rows = ReadmeCode.rows();
        for (Method method : face()) {
            List<String> answers = new ArrayList<>();
            for (ReadmeCode.Row row : rows) {
                if (row.call().contains("." + method.getName() + "(") && !row.answer().startsWith("throws ")) {
                    answers.add(row.answer());
                }
            }
            due("readme: shows " + method.getName(), true, () -> !answers.isEmpty());
            boolean returnsNothing = method.getReturnType() == void.class;
            due("readme: " + method.getName() + " answers nothing", returnsNothing,
                    () -> answers.contains(ReadmeCode.NOTHING));
        }
    }

    private static void tellsWhatIsThrown() throws IOException {
        Map<String, List<String>> told = new TreeMap<>();
        for (String line : ReadmeCode.lines()) {
            Matcher row = TOLD_IN_TABLE.matcher(line);
            if (row.matches()) {
                for (String call : all(CALL, row.group(1))) {
                    told.put(call, all(EXCEPTION, row.group(2)));
                }
            }
        }
        for (Method method : face()) {
            List<String> declared = new ArrayList<>();
            for (Class<?> exception : method.getExceptionTypes()) {
                declared.add(exception.getSimpleName());
            }
            due("readme: what " + method.getName() + " throws", declared,
                    () -> told.getOrDefault(method.getName(), List.of("is not told")));
        }
        due("readme: no other calls", face().size(), told::size);
    }

    private static List<String> all(Pattern pattern, String text) {
        List<String> found = new ArrayList<>();
        Matcher matcher = pattern.matcher(text);
        while (matcher.find()) {
            found.add(matcher.group(1));
        }
        return found;
    }

    private static void namesEveryTest() throws IOException {
        String page = String.join("\n", ReadmeCode.lines());
        String[] files = new File("src/test/java").list();
        due("readme: there are tests", true, () -> files != null);
        for (String file : files) {
            String name = file.replace(".java", "");
            due("readme: names " + name, true, () -> page.contains("`" + name + "`"));
        }
    }

    private static List<Method> face() {
        List<Method> face = new ArrayList<>();
        for (Method method : MailFollower.class.getMethods()) {
            if (method.getDeclaringClass() == MailFollower.class) {
                face.add(method);
            }
        }
        return face;
    }
}
