import java.util.ArrayList;
import java.util.List;
import java.util.function.IntUnaryOperator;

/** What the tests share: each extends this class, counts the answers that are not due, and ends with {@link #end}. */
class Checks {
    static final Class<?> OUT = IndexOutOfBoundsException.class;
    static final Class<?> ARGUMENT = IllegalArgumentException.class;
    static final Class<?> STATE = IllegalStateException.class;
    static final int ANY = -1;

    /** A call whose answer, or exception, is looked at. */
    interface Call {
        Object answer();
    }

    private static int wrong;

    static void due(String call, Object want, Call made) {
        Object got = answerOf(made);
        if (!want.equals(got)) {
            wrong++;
            System.out.println(call + " answered " + got + ", due is " + want);
        }
    }

    /** The class is looked at exactly, so that an exception of the machine itself does not pass for its parent. */
    static Object answerOf(Call made) {
        try {
            return made.answer();
        } catch (RuntimeException e) {
            return e.getClass();
        }
    }

    static Object watched(MailFollower x, int client, int box, int width) {
        x.watch(client, box, width);
        return "nothing";
    }

    static void end() {
        System.out.println(wrong == 0 ? "all answers are as due" : wrong + " answers are not as due");
        if (wrong != 0) {
            System.exit(1);
        }
    }

    /** Mails in the box 0 and the thread 0, with their numbers as times: the state is as many. */
    static MailFollower withMails(int mails) {
        MailFollower x = new MailFollower();
        for (int i = 0; i < mails; i++) {
            x.add(i, 1, 0);
        }
        return x;
    }

    /** As many changes: two calls each. */
    static void flip(MailFollower x, int mail, int keyword, int times) {
        for (int i = 0; i < times; i++) {
            x.flag(mail, keyword, (x.keywords(mail) >> keyword & 1) == 0);
        }
    }

    static List<Integer> result(MailFollower x, int box, int keyword) {
        return listed(x.found(box, keyword), index -> x.foundAt(box, keyword, index));
    }

    static List<Integer> changedMails(MailFollower x, int state, int way) {
        return listed(x.changed(state, way), index -> x.changedAt(state, way, index));
    }

    static List<Integer> windowMails(MailFollower x, int client) {
        return listed(x.window(client), index -> x.windowAt(client, index));
    }

    static List<Integer> knownKeywords(MailFollower x, int client) {
        return listed(x.window(client), index -> x.known(client, index));
    }

    private static List<Integer> listed(int size, IntUnaryOperator at) {
        List<Integer> list = new ArrayList<>();
        for (int i = 0; i < size; i++) {
            list.add(at.applyAsInt(i));
        }
        return list;
    }

    /** The numbers from one to another, rising or falling. */
    static List<Integer> numbers(int from, int to) {
        List<Integer> numbers = new ArrayList<>();
        int step = from <= to ? 1 : -1;
        for (int i = from; i != to + step; i += step) {
            numbers.add(i);
        }
        return numbers;
    }
}
