import java.io.IOException;
import java.lang.reflect.Constructor;
import java.lang.reflect.Field;
import java.lang.reflect.Method;
import java.lang.reflect.Modifier;
import java.nio.file.Files;
import java.nio.file.Path;
import java.util.ArrayList;
import java.util.Arrays;
import java.util.List;
import java.util.regex.Matcher;
import java.util.regex.Pattern;

/** "The public face", and the four sentences "Ahead of the calls [..] the interface says". */
public final class FaceTest extends Checks {
    private static final String A = " throws IllegalArgumentException";
    private static final String S = ", IllegalStateException";
    private static final String O = ", IndexOutOfBoundsException";
    private static final String NO_MAIL = " throws IndexOutOfBoundsException";

    private static final List<String> FACE = List.of(
            "int add(int, int, int)" + A + S,
            "int move(int, int)" + NO_MAIL + ", IllegalArgumentException",
            "boolean flag(int, int, boolean)" + NO_MAIL + ", IllegalArgumentException",
            "boolean flagIf(int, int, boolean, int)" + NO_MAIL + ", IllegalArgumentException" + S,
            "int destroy(int)" + NO_MAIL,
            "int state()",
            "int mails()",
            "int keywords(int)" + NO_MAIL,
            "int inThread(int)" + A,
            "float share(int, int)" + A,
            "boolean canTell(int)" + A,
            "int changed(int, int)" + A + S,
            "int changedAt(int, int, int)" + A + S + O,
            "int page(int, int)" + A + S,
            "int found(int, int)" + A,
            "int foundAt(int, int, int)" + A + O,
            "int removed(int, int, int)" + A + S,
            "int added(int, int, int)" + A + S,
            "void watch(int, int, int)" + A,
            "int flagOffline(int, int, int, boolean)" + A + S,
            "int sync(int)" + A,
            "int stateOf(int)" + A,
            "int window(int)" + A,
            "int windowAt(int, int)" + A + O,
            "int known(int, int)" + A + O,
            "int freshLoads(int)" + A);

    private static final Pattern SECTION = Pattern.compile(" {4}// (---- .*)");
    private static final Pattern CALL = Pattern.compile(" {4}public \\w+ (\\w+)\\(.*");

    public static void main(String[] args) throws IOException {
        aPublicFinalClass();
        theCallsOfTheFace();
        nothingElseIsSeen();
        theInterfaceSays();
        end();
    }

    private static void aPublicFinalClass() {
        Class<?> face = MailFollower.class;
        due("face: public and final", Modifier.PUBLIC | Modifier.FINAL, face::getModifiers);
        due("face: no package", "", face::getPackageName);
        due("face: no class above it", Object.class, face::getSuperclass);
        due("face: no interfaces", 0, () -> face.getInterfaces().length);
        Constructor<?>[] constructors = face.getDeclaredConstructors();
        due("face: one constructor", 1, () -> constructors.length);
        due("face: a public one", Modifier.PUBLIC, () -> constructors[0].getModifiers());
        due("face: without parameters", 0, () -> constructors[0].getParameterCount());
        due("face: without exceptions", 0, () -> constructors[0].getExceptionTypes().length);
    }

    private static void theCallsOfTheFace() {
        List<String> calls = new ArrayList<>();
        for (Method method : MailFollower.class.getDeclaredMethods()) {
            if (!Modifier.isPrivate(method.getModifiers())) {
                due("face: " + method.getName() + " is public", Modifier.PUBLIC, method::getModifiers);
                calls.add(method.getReturnType() + " " + method.getName() + listed("(", method.getParameterTypes(), ")")
                        + thrownBy(method));
            }
        }
        due("face: the calls", sorted(FACE), () -> sorted(calls));
    }

    private static String thrownBy(Method method) {
        return method.getExceptionTypes().length == 0 ? "" : listed(" throws ", method.getExceptionTypes(), "");
    }

    private static String listed(String ahead, Class<?>[] types, String behind) {
        List<String> names = new ArrayList<>();
        for (Class<?> type : types) {
            names.add(type.getSimpleName());
        }
        return ahead + String.join(", ", names) + behind;
    }

    private static List<String> sorted(List<String> calls) {
        List<String> sorted = new ArrayList<>(calls);
        sorted.sort(null);
        return sorted;
    }

    private static void nothingElseIsSeen() {
        for (Field field : MailFollower.class.getDeclaredFields()) {
            due("face: " + field.getName() + " is private", true, () -> Modifier.isPrivate(field.getModifiers()));
        }
        for (Class<?> inside : MailFollower.class.getDeclaredClasses()) {
            int seen = inside.getModifiers() & (Modifier.PUBLIC | Modifier.PROTECTED);
            due("face: " + inside.getName() + " is not seen", 0, () -> seen);
            due("face: " + inside.getName() + " is static", true, () -> Modifier.isStatic(inside.getModifiers()));
        }
    }

    /** The comment with which the part of the interface begins in which each call stands. */
    private static void theInterfaceSays() throws IOException {
        List<String> want = new ArrayList<>();
        want.addAll(under("---- the server", "add move flag flagIf destroy state mails keywords inThread share"));
        want.addAll(under("---- what changed", "canTell changed changedAt page"));
        want.addAll(under("---- queries", "found foundAt removed added"));
        want.addAll(under("---- clients",
                "watch flagOffline sync stateOf window windowAt known freshLoads"));
        List<String> said = said();
        due("terms: the interface says", want, () -> said);
    }

    private static List<String> under(String section, String calls) {
        return Arrays.stream(calls.split(" ")).map(call -> section + ": " + call).toList();
    }

    private static List<String> said() throws IOException {
        List<String> said = new ArrayList<>();
        String section = "nothing";
        for (String line : Files.readAllLines(Path.of("src/main/java/MailFollower.java"))) {
            Matcher begun = SECTION.matcher(line);
            Matcher call = CALL.matcher(line);
            if (begun.matches()) {
                section = begun.group(1);
            } else if (call.matches()) {
                said.add(section + ": " + call.group(1));
            }
        }
        return said;
    }
}
