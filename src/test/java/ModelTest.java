import java.util.Random;

/** Promises 1 to 27: runs of 512 calls, the same ones each time, on the class and on the model. */
public final class ModelTest extends Checks {
    private static final int RUNS = 3000;
    private static final int CALLS = 512;
    private static final int MOST_AT_ONCE = 3;

    private final Random random;
    private final MailFollower x = new MailFollower();
    private final Model m = new Model();
    private final String run;
    /** Few mails make many flags of one mail; few boxes make long results. */
    private final int mails;
    private final int boxes;
    private final boolean offline;
    private int calls;

    private ModelTest(int seed) {
        random = new Random(seed);
        run = "p1-27 run " + seed;
        mails = new int[] {2, 6, 20, 60, 61}[seed % 5];
        boxes = seed % 3 == 0 ? 1 : 6;
        offline = seed % 2 == 0;
    }

    public static void main(String[] args) {
        for (int seed = 0; seed < RUNS; seed++) {
            ModelTest test = new ModelTest(seed);
            while (test.calls < CALLS - MOST_AT_ONCE) {
                test.call();
            }
        }
        end();
    }

    private void same(String call, Call got, Call want) {
        calls++;
        due(run + ": " + call, answerOf(want), got);
    }

    /** A number from least to most, seldom one beside them or far away. */
    private int from(int least, int most) {
        int odd = random.nextInt(60);
        if (odd == 0) {
            return least - 1;
        }
        if (odd == 1) {
            return most + 1;
        }
        if (odd == 2) {
            return random.nextInt();
        }
        return least + random.nextInt(Math.max(1, most - least + 1));
    }

    private int state() {
        return random.nextInt(4) == 0 ? from(0, m.state()) : from(Math.max(0, m.state() - 41), m.state());
    }

    private int mail() {
        return from(0, mails - 1);
    }

    private int inWindow(int client) {
        if (client < 0 || client > 1 || m.window(client) == 0 || random.nextInt(10) == 0) {
            return mail();
        }
        return m.windowAt(client, random.nextInt(m.window(client)));
    }

    private int keyword() {
        return from(0, 3);
    }

    private int box() {
        return boxes == 1 ? from(0, 0) : from(0, 5);
    }

    private int set() {
        return boxes == 1 && random.nextInt(4) != 0 ? 1 : from(1, 63);
    }

    private void call() {
        int kind = random.nextInt(offline ? 40 : 30);
        if (kind < 12) {
            change(kind);
        } else if (kind < 22) {
            ask(kind);
        } else {
            client(kind);
        }
    }

    private void change(int kind) {
        int mail = mail();
        int keyword = keyword();
        boolean set = random.nextBoolean();
        if (kind < 3) {
            add();
        } else if (kind < 5) {
            int to = set();
            same("move", () -> x.move(mail, to), () -> m.move(mail, to));
        } else if (kind < 9) {
            same("flag", () -> x.flag(mail, keyword, set), () -> m.flag(mail, keyword, set));
        } else if (kind < 11) {
            int state = from(m.state(), m.state());
            same("flagIf", () -> x.flagIf(mail, keyword, set, state), () -> m.flagIf(mail, keyword, set, state));
        } else if (random.nextInt(3) == 0) {
            same("destroy", () -> x.destroy(mail), () -> m.destroy(mail));
        }
    }

    private void add() {
        int time = random.nextInt(3) == 0 ? from(0, 9999) : random.nextInt(4);
        int to = set();
        int thread = from(0, 9);
        same("add", () -> x.add(time, to, thread), () -> m.add(time, to, thread));
    }

    private void ask(int kind) {
        int mail = mail();
        int keyword = keyword();
        int box = box();
        int queried = from(-1, 3);
        int state = state();
        int way = from(0, 2);
        int index = from(0, 8);
        int places = random.nextBoolean() ? from(1, 3) : from(1, 20);
        switch (kind) {
            case 12 -> {
                same("state", x::state, m::state);
                same("mails", x::mails, m::mails);
                same("keywords", () -> x.keywords(mail), () -> m.keywords(mail));
            }
            case 13 -> {
                same("inThread", () -> x.inThread(index), () -> m.inThread(index));
                same("share", () -> x.share(box, keyword), () -> m.share(box, keyword));
            }
            case 14 -> same("canTell", () -> x.canTell(state), () -> m.canTell(state));
            case 15 -> same("changed", () -> x.changed(state, way), () -> m.changed(state, way));
            case 16 -> same("changedAt", () -> x.changedAt(state, way, index), () -> m.changedAt(state, way, index));
            case 17 -> same("page", () -> x.page(state, places), () -> m.page(state, places));
            case 18 -> same("found", () -> x.found(box, queried), () -> m.found(box, queried));
            case 19 -> same("foundAt", () -> x.foundAt(box, queried, index), () -> m.foundAt(box, queried, index));
            case 20 -> same("removed", () -> x.removed(state, box, queried), () -> m.removed(state, box, queried));
            default -> same("added", () -> x.added(state, box, queried), () -> m.added(state, box, queried));
        }
    }

    private void client(int kind) {
        int client = from(0, 1);
        int index = from(0, 9);
        switch (kind) {
            case 22 -> {
                int box = box();
                int width = from(1, 10);
                same("watch", () -> watched(() -> x.watch(client, box, width)),
                        () -> watched(() -> m.watch(client, box, width)));
            }
            case 23 -> {
                if (random.nextInt(3) == 0) {
                    same("sync", () -> x.sync(client), () -> m.sync(client));
                }
            }
            case 24 -> same("stateOf", () -> x.stateOf(client), () -> m.stateOf(client));
            case 25 -> same("window", () -> x.window(client), () -> m.window(client));
            case 26 -> same("windowAt", () -> x.windowAt(client, index), () -> m.windowAt(client, index));
            case 27 -> same("known", () -> x.known(client, index), () -> m.known(client, index));
            case 28 -> same("freshLoads", () -> x.freshLoads(client), () -> m.freshLoads(client));
            default -> {
                int mail = inWindow(client);
                int keyword = keyword();
                boolean set = random.nextBoolean();
                same("flagOffline", () -> x.flagOffline(client, mail, keyword, set),
                        () -> m.flagOffline(client, mail, keyword, set));
            }
        }
    }

    private static String watched(Runnable call) {
        call.run();
        return "nothing";
    }
}
