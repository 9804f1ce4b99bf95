import java.util.ArrayList;
import java.util.Comparator;
import java.util.List;
import java.util.TreeMap;
import java.util.TreeSet;

/** The document told as plainly as can be: every state is kept as a whole, and each answer is read off them. */
final class Model {
    record Mail(int number, int time, int boxes, int thread, int keywords) {
        boolean isIn(int box, int keyword) {
            return (boxes >> box & 1) == 1 && (keyword < 0 || (keywords >> keyword & 1) == 1);
        }

        Mail flagged(int keyword, boolean set) {
            int bit = 1 << keyword;
            return new Mail(number, time, boxes, thread, set ? keywords | bit : keywords & ~bit);
        }
    }

    record Change(int mail, int keyword, boolean set) {
    }

    private static final class Client {
        int box = 0;
        int width = 5;
        int state = 0;
        int loads = 0;
        List<Mail> window = new ArrayList<>();
        List<Change> list = new ArrayList<>();
    }

    /** Under each state the mails that are there, by their numbers. */
    private final List<TreeMap<Integer, Mail>> states = new ArrayList<>();
    /** Under each state less 1 the change that led to it. */
    private final List<Change> changes = new ArrayList<>();
    private final Client[] clients = {new Client(), new Client()};
    private int come = 0;

    Model() {
        states.add(new TreeMap<>());
    }

    private TreeMap<Integer, Mail> now() {
        return states.get(state());
    }

    private void argument(boolean right) {
        if (!right) {
            throw new IllegalArgumentException();
        }
    }

    private void there(boolean right) {
        if (!right) {
            throw new IndexOutOfBoundsException();
        }
    }

    private void stands(boolean right) {
        if (!right) {
            throw new IllegalStateException();
        }
    }

    private static boolean in(int value, int least, int most) {
        return least <= value && value <= most;
    }

    private void put(Mail mail, int keyword, boolean set) {
        TreeMap<Integer, Mail> next = new TreeMap<>(now());
        next.put(mail.number, mail);
        states.add(next);
        changes.add(new Change(mail.number, keyword, set));
    }

    int add(int time, int boxes, int thread) {
        argument(in(time, 0, 9999) && in(boxes, 1, 63) && in(thread, 0, 9));
        stands(come < 60);
        put(new Mail(come, time, boxes, thread, 0), -1, false);
        return come++;
    }

    int move(int mail, int boxes) {
        there(now().containsKey(mail));
        argument(in(boxes, 1, 63));
        Mail before = now().get(mail);
        if (before.boxes != boxes) {
            put(new Mail(mail, before.time, boxes, before.thread, before.keywords), -1, false);
        }
        return before.boxes;
    }

    boolean flag(int mail, int keyword, boolean set) {
        there(now().containsKey(mail));
        argument(in(keyword, 0, 3));
        Mail before = now().get(mail);
        Mail after = before.flagged(keyword, set);
        if (after.equals(before)) {
            return false;
        }
        put(after, keyword, set);
        return true;
    }

    boolean flagIf(int mail, int keyword, boolean set, int state) {
        there(now().containsKey(mail));
        argument(in(keyword, 0, 3));
        stands(state == state());
        return flag(mail, keyword, set);
    }

    int destroy(int mail) {
        there(now().containsKey(mail));
        TreeMap<Integer, Mail> next = new TreeMap<>(now());
        next.remove(mail);
        states.add(next);
        changes.add(new Change(mail, -1, false));
        return state();
    }

    int state() {
        return changes.size();
    }

    int mails() {
        return now().size();
    }

    int keywords(int mail) {
        there(now().containsKey(mail));
        return now().get(mail).keywords;
    }

    int inThread(int thread) {
        argument(in(thread, 0, 9));
        return (int) now().values().stream().filter(m -> m.thread == thread).count();
    }

    float share(int box, int keyword) {
        argument(in(box, 0, 5) && in(keyword, 0, 3));
        int all = result(now(), box, -1).size();
        return all == 0 ? 0f : (float) result(now(), box, keyword).size() / (float) all;
    }

    boolean canTell(int state) {
        argument(in(state, 0, state()));
        return tells(state);
    }

    private boolean tells(int state) {
        return state() - state <= 40;
    }

    private List<Integer> changedMails(int state, int way) {
        argument(in(state, 0, state()) && in(way, 0, 2));
        stands(tells(state));
        TreeSet<Integer> behind = new TreeSet<>();
        for (int i = state; i < state(); i++) {
            behind.add(changes.get(i).mail);
        }
        List<Integer> mails = new ArrayList<>();
        for (int mail : behind) {
            boolean then = states.get(state).containsKey(mail);
            boolean is = now().containsKey(mail);
            if (way == 0 ? is && !then : way == 1 ? is && then : then && !is) {
                mails.add(mail);
            }
        }
        return mails;
    }

    int changed(int state, int way) {
        return changedMails(state, way).size();
    }

    int changedAt(int state, int way, int index) {
        List<Integer> mails = changedMails(state, way);
        there(in(index, 0, mails.size() - 1));
        return mails.get(index);
    }

    int page(int state, int places) {
        argument(in(state, 0, state()) && in(places, 1, 20));
        stands(tells(state));
        TreeSet<Integer> placed = new TreeSet<>();
        int end = state;
        while (end < state() && (placed.contains(changes.get(end).mail) || placed.size() < places)) {
            placed.add(changes.get(end).mail);
            end++;
        }
        return end;
    }

    private static List<Mail> result(TreeMap<Integer, Mail> mails, int box, int keyword) {
        List<Mail> result = new ArrayList<>();
        for (Mail mail : mails.values()) {
            if (mail.isIn(box, keyword)) {
                result.add(mail);
            }
        }
        result.sort(Comparator.comparingInt((Mail m) -> m.time).thenComparingInt(m -> m.number).reversed());
        return result;
    }

    int found(int box, int keyword) {
        argument(in(box, 0, 5) && in(keyword, -1, 3));
        return result(now(), box, keyword).size();
    }

    int foundAt(int box, int keyword, int index) {
        int size = found(box, keyword);
        there(in(index, 0, size - 1));
        return result(now(), box, keyword).get(index).number;
    }

    private int missing(int state, int box, int keyword, boolean now) {
        argument(in(state, 0, state()) && in(box, 0, 5) && in(keyword, -1, 3));
        stands(tells(state));
        int missing = 0;
        TreeMap<Integer, Mail> other = now ? now() : states.get(state);
        for (Mail mail : result(now ? states.get(state) : now(), box, keyword)) {
            Mail same = other.get(mail.number);
            if (same == null || !same.isIn(box, keyword)) {
                missing++;
            }
        }
        return missing;
    }

    int removed(int state, int box, int keyword) {
        return missing(state, box, keyword, true);
    }

    int added(int state, int box, int keyword) {
        return missing(state, box, keyword, false);
    }

    void watch(int client, int box, int width) {
        argument(in(client, 0, 1) && in(box, 0, 5) && in(width, 1, 10));
        clients[client].box = box;
        clients[client].width = width;
    }

    int flagOffline(int client, int mail, int keyword, boolean set) {
        argument(in(client, 0, 1) && in(keyword, 0, 3));
        Client c = clients[client];
        int place = -1;
        for (int i = 0; i < c.window.size(); i++) {
            place = c.window.get(i).number == mail ? i : place;
        }
        argument(place >= 0);
        stands(c.list.size() < 10);
        c.list.add(new Change(mail, keyword, set));
        c.window.set(place, c.window.get(place).flagged(keyword, set));
        return c.list.size();
    }

    int sync(int client) {
        argument(in(client, 0, 1));
        Client c = clients[client];
        int begin = state();
        boolean told = tells(c.state);
        c.loads += told ? 0 : 1;
        int conflicts = 0;
        for (Change flag : c.list) {
            if (!now().containsKey(flag.mail) || told && contradicted(flag, c.state, begin)) {
                conflicts++;
            } else {
                flag(flag.mail, flag.keyword, flag.set);
            }
        }
        c.list.clear();
        c.state = state();
        List<Mail> result = result(now(), c.box, -1);
        c.window = new ArrayList<>(result.subList(0, Math.min(c.width, result.size())));
        return conflicts;
    }

    private boolean contradicted(Change flag, int from, int to) {
        boolean contradicted = false;
        for (int i = from; i < to; i++) {
            Change change = changes.get(i);
            if (change.mail == flag.mail && change.keyword == flag.keyword) {
                contradicted = change.set != flag.set;
            }
        }
        return contradicted;
    }

    int stateOf(int client) {
        argument(in(client, 0, 1));
        return clients[client].state;
    }

    int window(int client) {
        argument(in(client, 0, 1));
        return clients[client].window.size();
    }

    private Mail inWindow(int client, int index) {
        argument(in(client, 0, 1));
        there(in(index, 0, clients[client].window.size() - 1));
        return clients[client].window.get(index);
    }

    int windowAt(int client, int index) {
        return inWindow(client, index).number;
    }

    int known(int client, int index) {
        return inWindow(client, index).keywords;
    }

    int freshLoads(int client) {
        argument(in(client, 0, 1));
        return clients[client].loads;
    }
}
