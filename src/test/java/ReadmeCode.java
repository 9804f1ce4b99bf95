import java.io.IOException;
import java.nio.file.Files;
import java.nio.file.Path;
import java.util.ArrayList;
import java.util.List;
import java.util.regex.Matcher;
import java.util.regex.Pattern;

/**
 * The Java of README.md. A row such as "x.state();  // 3: three changes" tells that the call answers 3; a row without a
 * comment is only made. Run by itself, it prints a test that makes the rows in their order and looks at the answers.
 */
final class ReadmeCode {
    static final String NOTHING = "nothing";
    private static final String THROWS = "throws ";
    private static final Pattern ANSWERED = Pattern.compile("\\s*(\\S.*);\\s*// ([^:]+)(: .+)?");

    /** The call and the answer are empty if the row tells no answer. */
    record Row(int line, String text, String call, String answer) {
    }

    static List<String> lines() throws IOException {
        return Files.readAllLines(Path.of("README.md"));
    }

    static List<Row> rows() throws IOException {
        List<Row> rows = new ArrayList<>();
        boolean shown = false;
        int number = 0;
        for (String line : lines()) {
            number++;
            if (line.startsWith("```")) {
                shown = line.equals("```java");
            } else if (shown) {
                rows.add(row(number, line));
            }
        }
        return rows;
    }

    private static Row row(int number, String line) {
        Matcher answered = ANSWERED.matcher(line);
        if (answered.matches()) {
            return new Row(number, line, answered.group(1), answered.group(2));
        }
        if (line.contains("//")) {
            throw new IllegalStateException("README.md " + number + " tells no answer that can be looked at: " + line);
        }
        return new Row(number, line, "", "");
    }

    /** An answer, or an exception, as README.md writes it. */
    static Object told(Checks.Call made) {
        Object answer = Checks.answerOf(made);
        return answer instanceof Class<?> thrown ? THROWS + thrown.getSimpleName() : answer.toString();
    }

    public static void main(String[] args) throws IOException {
        List<Row> rows = rows();
        System.out.println("public final class ReadmeAnswers extends Checks {");
        System.out.println("    public static void main(String[] args) {");
        for (Row row : rows) {
            System.out.println(row.call.isEmpty() ? row.text : looked(row));
        }
        System.out.println("        end();");
        System.out.println("    }");
        System.out.println("    static void asItStands() {");
        for (Row row : rows) {
            System.out.println(row.text);
        }
        System.out.println("    }");
        System.out.println("}");
    }

    private static String looked(Row row) {
        String made = answersNothing(row) ? "{ " + row.call + "; return " + quoted(NOTHING) + "; }" : row.call;
        String name = "README.md " + row.line + ": " + row.call;
        return "due(" + quoted(name) + ", " + quoted(row.answer) + ", () -> ReadmeCode.told(() -> " + made + "));";
    }

    /** A call that is to throw may be one that returns nothing. */
    private static boolean answersNothing(Row row) {
        return row.answer.equals(NOTHING) || row.answer.startsWith(THROWS);
    }

    private static String quoted(String text) {
        return '"' + text.replace("\\", "\\\\").replace("\"", "\\\"") + '"';
    }
}
