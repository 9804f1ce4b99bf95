/** A mail server and two clients that follow it. */
public final class MailFollower {

    private static final int MOST_MAILS = 60;
    private static final int LAST_TIME = 9999;
    private static final int LAST_THREAD = 9;
    private static final int LAST_BOX = 5;
    private static final int ALL_BOXES = 63;
    private static final int LAST_KEYWORD = 3;
    private static final int ANY_KEYWORD = -1;
    private static final int NO_KEYWORDS = 0;
    private static final int KNOWN_CHANGES = 40;
    private static final int MOST_PLACES = 20;
    private static final int LAST_CLIENT = 1;
    private static final int FIRST_WIDTH = 5;
    private static final int MOST_WIDTH = 10;
    private static final int MOST_FLAGS = 10;
    private static final int CREATED = 0;
    private static final int DESTROYED = 2;
    private static final int NOWHERE = -1;

    private final Server server;
    private final Client firstClient;
    private final Client secondClient;

    public MailFollower() {
        server = new Server();
        firstClient = new Client();
        secondClient = new Client();
    }

    // ---- the server

    public int add(int time, int boxes, int thread) throws IllegalArgumentException, IllegalStateException {
        if (!isWithin(time, 0, LAST_TIME) || !isBoxSet(boxes) || !isThread(thread)) {
            throw new IllegalArgumentException("time, boxes or thread is out of range");
        }
        if (server.come >= MOST_MAILS) {
            throw new IllegalStateException("all mails have come");
        }
        return server.letCome(time, boxes, thread);
    }

    public int move(int mail, int boxes) throws IndexOutOfBoundsException, IllegalArgumentException {
        requireMail(server.isThere(mail));
        if (!isBoxSet(boxes)) {
            throw new IllegalArgumentException("boxes is out of range");
        }
        int before = server.boxesOf(mail);
        server.change(mail, boxes, server.keywordsOf(mail));
        return before;
    }

    public boolean flag(int mail, int keyword, boolean set) throws IndexOutOfBoundsException, IllegalArgumentException {
        requireMail(server.isThere(mail));
        if (!isKeyword(keyword)) {
            throw new IllegalArgumentException("keyword is out of range");
        }
        return server.setKeyword(mail, keyword, set);
    }

    public boolean flagIf(int mail, int keyword, boolean set, int state)
            throws IndexOutOfBoundsException, IllegalArgumentException, IllegalStateException {
        requireMail(server.isThere(mail));
        if (!isKeyword(keyword)) {
            throw new IllegalArgumentException("keyword is out of range");
        }
        if (state != server.changes.latest) {
            throw new IllegalStateException("the state is another one");
        }
        return server.setKeyword(mail, keyword, set);
    }

    public int destroy(int mail) throws IndexOutOfBoundsException {
        requireMail(server.isThere(mail));
        server.change(mail, 0, server.keywordsOf(mail));
        return server.changes.latest;
    }

    public int state() {
        return server.changes.latest;
    }

    public int mails() {
        return Long.bitCount(server.matching(ALL_BOXES, NO_KEYWORDS));
    }

    public int keywords(int mail) throws IndexOutOfBoundsException {
        requireMail(server.isThere(mail));
        return server.keywordsOf(mail);
    }

    public int inThread(int thread) throws IllegalArgumentException {
        if (!isThread(thread)) {
            throw new IllegalArgumentException("thread is out of range");
        }
        return server.countThread(thread);
    }

    public float share(int box, int keyword) throws IllegalArgumentException {
        if (!isBox(box) || !isKeyword(keyword)) {
            throw new IllegalArgumentException("box or keyword is out of range");
        }
        int inBox = Long.bitCount(server.matching(1 << box, NO_KEYWORDS));
        if (inBox == 0) {
            return 0;
        }
        int having = Long.bitCount(server.matching(1 << box, 1 << keyword));
        return (float) having / (float) inBox;
    }

    // ---- what changed

    public boolean canTell(int state) throws IllegalArgumentException {
        if (!isState(state)) {
            throw new IllegalArgumentException("state is out of range");
        }
        return server.changes.reachBackTo(state);
    }

    public int changed(int state, int way) throws IllegalArgumentException, IllegalStateException {
        if (!isState(state) || !isWay(way)) {
            throw new IllegalArgumentException("state or way is out of range");
        }
        requireTelling(state);
        return Long.bitCount(server.changedSince(state, way));
    }

    public int changedAt(int state, int way, int index)
            throws IllegalArgumentException, IllegalStateException, IndexOutOfBoundsException {
        if (!isState(state) || !isWay(way)) {
            throw new IllegalArgumentException("state or way is out of range");
        }
        requireTelling(state);
        int mail = lowestAt(server.changedSince(state, way), index);
        requireMail(mail != NOWHERE);
        return mail;
    }

    public int page(int state, int places) throws IllegalArgumentException, IllegalStateException {
        if (!isState(state) || !isWithin(places, 1, MOST_PLACES)) {
            throw new IllegalArgumentException("state or places is out of range");
        }
        requireTelling(state);
        return server.changes.endOfPage(state, places);
    }

    // ---- queries

    public int found(int box, int keyword) throws IllegalArgumentException {
        if (!isBox(box) || !isQueryKeyword(keyword)) {
            throw new IllegalArgumentException("box or keyword is out of range");
        }
        return Long.bitCount(server.matching(1 << box, asked(keyword)));
    }

    public int foundAt(int box, int keyword, int index) throws IllegalArgumentException, IndexOutOfBoundsException {
        if (!isBox(box) || !isQueryKeyword(keyword)) {
            throw new IllegalArgumentException("box or keyword is out of range");
        }
        int mail = server.latestAt(server.matching(1 << box, asked(keyword)), index);
        requireMail(mail != NOWHERE);
        return mail;
    }

    public int removed(int state, int box, int keyword) throws IllegalArgumentException, IllegalStateException {
        if (!isState(state) || !isBox(box) || !isQueryKeyword(keyword)) {
            throw new IllegalArgumentException("state, box or keyword is out of range");
        }
        requireTelling(state);
        long then = server.matchingAt(state, 1 << box, asked(keyword));
        return Long.bitCount(then & ~server.matching(1 << box, asked(keyword)));
    }

    public int added(int state, int box, int keyword) throws IllegalArgumentException, IllegalStateException {
        if (!isState(state) || !isBox(box) || !isQueryKeyword(keyword)) {
            throw new IllegalArgumentException("state, box or keyword is out of range");
        }
        requireTelling(state);
        long then = server.matchingAt(state, 1 << box, asked(keyword));
        return Long.bitCount(server.matching(1 << box, asked(keyword)) & ~then);
    }

    // ---- clients

    public void watch(int client, int box, int width) throws IllegalArgumentException {
        if (!isClient(client) || !isBox(box) || !isWithin(width, 1, MOST_WIDTH)) {
            throw new IllegalArgumentException("client, box or width is out of range");
        }
        Client watching = clientOf(client);
        watching.box = box;
        watching.width = width;
    }

    public int flagOffline(int client, int mail, int keyword, boolean set)
            throws IllegalArgumentException, IllegalStateException {
        if (!isClient(client) || !isKeyword(keyword)) {
            throw new IllegalArgumentException("client or keyword is out of range");
        }
        Client offline = clientOf(client);
        int place = offline.placeOf(mail);
        if (place == NOWHERE) {
            throw new IllegalArgumentException("the mail is not in the window");
        }
        if (offline.flags >= MOST_FLAGS) {
            throw new IllegalStateException("the list is full");
        }
        offline.note(place, keyword, set);
        return offline.flags;
    }

    public int sync(int client) throws IllegalArgumentException {
        requireClient(client);
        Client syncing = clientOf(client);
        if (!server.changes.reachBackTo(syncing.syncState)) {
            syncing.loads++;
        }
        // Conflicts are settled ahead of the replay, which may push changes that count for them out of the known ones.
        int conflicts = syncing.leaveOutConflicts(server);
        syncing.replay(server);
        syncing.load(server);
        return conflicts;
    }

    public int stateOf(int client) throws IllegalArgumentException {
        requireClient(client);
        return clientOf(client).syncState;
    }

    public int window(int client) throws IllegalArgumentException {
        requireClient(client);
        return clientOf(client).windowSize;
    }

    public int windowAt(int client, int index) throws IllegalArgumentException, IndexOutOfBoundsException {
        requireClient(client);
        Client owner = clientOf(client);
        if (!owner.hasPlace(index)) {
            throw new IndexOutOfBoundsException("there is no such mail");
        }
        return owner.windowMails[index];
    }

    public int known(int client, int index) throws IllegalArgumentException, IndexOutOfBoundsException {
        requireClient(client);
        Client owner = clientOf(client);
        if (!owner.hasPlace(index)) {
            throw new IndexOutOfBoundsException("there is no such mail");
        }
        return owner.windowKeywords[index];
    }

    public int freshLoads(int client) throws IllegalArgumentException {
        requireClient(client);
        return clientOf(client).loads;
    }

    // ---- ranges

    private static boolean isWithin(int value, int least, int most) {
        return value >= least && value <= most;
    }

    private static boolean isBox(int box) {
        return isWithin(box, 0, LAST_BOX);
    }

    private static boolean isBoxSet(int boxes) {
        return isWithin(boxes, 1, ALL_BOXES);
    }

    private static boolean isThread(int thread) {
        return isWithin(thread, 0, LAST_THREAD);
    }

    private static boolean isKeyword(int keyword) {
        return isWithin(keyword, 0, LAST_KEYWORD);
    }

    private static boolean isQueryKeyword(int keyword) {
        return keyword == ANY_KEYWORD || isKeyword(keyword);
    }

    private static boolean isWay(int way) {
        return isWithin(way, CREATED, DESTROYED);
    }

    private static boolean isClient(int client) {
        return isWithin(client, 0, LAST_CLIENT);
    }

    private static void requireClient(int client) {
        if (!isClient(client)) {
            throw new IllegalArgumentException("client is out of range");
        }
    }

    private static void requireMail(boolean found) {
        if (!found) {
            throw new IndexOutOfBoundsException("there is no such mail");
        }
    }

    private void requireTelling(int state) {
        if (!server.changes.reachBackTo(state)) {
            throw new IllegalStateException("the server cannot tell what changed");
        }
    }

    private boolean isState(int state) {
        return isWithin(state, 0, server.changes.latest);
    }

    private Client clientOf(int client) {
        return client == 0 ? firstClient : secondClient;
    }

    // ---- sets: of boxes and keywords as int, of mails as long, since 60 mails are fewer than its 64 bits

    /** The keywords that a mail must have to be in the result of a query. */
    private static int asked(int keyword) {
        return keyword == ANY_KEYWORD ? NO_KEYWORDS : 1 << keyword;
    }

    private static boolean holds(long set, int element) {
        return (set >> element & 1) == 1;
    }

    private static long with(long set, int element, boolean held) {
        return held ? set | 1L << element : set & ~(1L << element);
    }

    /** The mail with so many lower numbers ahead of it in a set, or NOWHERE. */
    private static int lowestAt(long set, int index) {
        int ahead = 0;
        for (int mail = 0; mail < MOST_MAILS; mail++) {
            if (holds(set, mail)) {
                if (ahead == index) {
                    return mail;
                }
                ahead++;
            }
        }
        return NOWHERE;
    }

    /** Whether a mail lies in one of the boxes told and has all keywords told. */
    private static boolean matches(int boxes, int keywords, int anyOfBoxes, int allOfKeywords) {
        return (boxes & anyOfBoxes) != 0 && (keywords & allOfKeywords) == allOfKeywords;
    }

    /** The mails and what changed in them. A mail lies in no box exactly if it is not there. */
    private static final class Server {
        private final int[] times;
        private final int[] threads;
        private final int[] boxRow;
        private final int[] keywordRow;
        /** All mails that have come, destroyed ones too, by falling times and then falling numbers. */
        private final int[] order;
        private final Changes changes;
        private int come;

        Server() {
            times = new int[MOST_MAILS];
            threads = new int[MOST_MAILS];
            boxRow = new int[MOST_MAILS];
            keywordRow = new int[MOST_MAILS];
            order = new int[MOST_MAILS];
            changes = new Changes();
        }

        int boxesOf(int mail) {
            return isWithin(mail, 0, MOST_MAILS - 1) ? boxRow[mail] : 0;
        }

        int keywordsOf(int mail) {
            return isWithin(mail, 0, MOST_MAILS - 1) ? keywordRow[mail] : NO_KEYWORDS;
        }

        private int timeOf(int mail) {
            return isWithin(mail, 0, MOST_MAILS - 1) ? times[mail] : 0;
        }

        boolean isThere(int mail) {
            return boxesOf(mail) != 0;
        }

        int letCome(int time, int boxes, int thread) {
            int mail = come;
            if (mail >= 0 && mail < MOST_MAILS) {
                times[mail] = time;
                threads[mail] = thread;
                putInOrder(mail, time);
                come++;
                change(mail, boxes, NO_KEYWORDS);
            }
            return mail;
        }

        /** The newcomer has the highest number, so it goes ahead of the mails of the same time. */
        private void putInOrder(int mail, int time) {
            int place = Math.min(come, MOST_MAILS - 1);
            while (place > 0 && timeOf(order[place - 1]) <= time) {
                order[place] = order[place - 1];
                place--;
            }
            order[place] = mail;
        }

        boolean setKeyword(int mail, int keyword, boolean set) {
            return change(mail, boxesOf(mail), (int) with(keywordsOf(mail), keyword, set));
        }

        /** Returns whether that is a change. */
        boolean change(int mail, int boxes, int keywords) {
            if (!isWithin(mail, 0, MOST_MAILS - 1) || (boxRow[mail] == boxes && keywordRow[mail] == keywords)) {
                return false;
            }
            changes.keep(mail, boxRow[mail], keywordRow[mail], keywords);
            boxRow[mail] = boxes;
            keywordRow[mail] = keywords;
            return true;
        }

        int countThread(int thread) {
            int count = 0;
            for (int mail = 0; mail < MOST_MAILS; mail++) {
                if (isThere(mail) && threads[mail] == thread) {
                    count++;
                }
            }
            return count;
        }

        long matching(int anyOfBoxes, int allOfKeywords) {
            long set = 0;
            for (int mail = 0; mail < MOST_MAILS; mail++) {
                set = with(set, mail, matches(boxRow[mail], keywordRow[mail], anyOfBoxes, allOfKeywords));
            }
            return set;
        }

        long matchingAt(int state, int anyOfBoxes, int allOfKeywords) {
            return changes.undo(state, matching(anyOfBoxes, allOfKeywords), anyOfBoxes, allOfKeywords);
        }

        long changedSince(int state, int way) {
            long now = matching(ALL_BOXES, NO_KEYWORDS);
            long then = matchingAt(state, ALL_BOXES, NO_KEYWORDS);
            if (way == CREATED) {
                return now & ~then;
            }
            if (way == DESTROYED) {
                return then & ~now;
            }
            return now & then & changes.touched(state);
        }

        /** The mail with so many ahead of it among those of a set, by falling times and numbers, or NOWHERE. */
        int latestAt(long set, int index) {
            int ahead = 0;
            for (int place = 0; place < come && place < MOST_MAILS; place++) {
                if (holds(set, order[place])) {
                    if (ahead == index) {
                        return order[place];
                    }
                    ahead++;
                }
            }
            return NOWHERE;
        }
    }

    /** The latest changes. Each stands in the slot of the state that it led to, and gives way to the 40th after it. */
    private static final class Changes {
        private final int[] mailRow;
        private final int[] boxesBefore;
        private final int[] keywordsBefore;
        private final int[] keywordsAfter;
        private int latest;

        Changes() {
            mailRow = new int[KNOWN_CHANGES];
            boxesBefore = new int[KNOWN_CHANGES];
            keywordsBefore = new int[KNOWN_CHANGES];
            keywordsAfter = new int[KNOWN_CHANGES];
        }

        private static int slotOf(int state) {
            return Math.floorMod(state, KNOWN_CHANGES);
        }

        void keep(int mail, int oldBoxes, int oldKeywords, int newKeywords) {
            latest++;
            int slot = slotOf(latest);
            mailRow[slot] = mail;
            boxesBefore[slot] = oldBoxes;
            keywordsBefore[slot] = oldKeywords;
            keywordsAfter[slot] = newKeywords;
        }

        boolean reachBackTo(int state) {
            return latest - state <= KNOWN_CHANGES;
        }

        private int countBehind(int state) {
            return Math.min(latest - state, KNOWN_CHANGES);
        }

        /** Leads the set of the mails that match now back to the set of those that matched at a state. */
        long undo(int state, long now, int anyOfBoxes, int allOfKeywords) {
            long set = now;
            int count = countBehind(state);
            for (int back = 0; back < count; back++) {
                int slot = slotOf(latest - back);
                boolean matched = matches(boxesBefore[slot], keywordsBefore[slot], anyOfBoxes, allOfKeywords);
                set = with(set, mailRow[slot], matched);
            }
            return set;
        }

        /** The mails that some change behind a state is of. */
        long touched(int state) {
            long set = 0;
            int count = countBehind(state);
            for (int back = 0; back < count; back++) {
                set = with(set, mailRow[slotOf(latest - back)], true);
            }
            return set;
        }

        int endOfPage(int state, int places) {
            long placed = 0;
            int count = countBehind(state);
            for (int ahead = 0; ahead < count; ahead++) {
                int mail = mailRow[slotOf(state + 1 + ahead)];
                if (!holds(placed, mail) && Long.bitCount(placed) >= places) {
                    return state + ahead;
                }
                placed = with(placed, mail, true);
            }
            return latest;
        }

        /** Whether the latest change of this keyword of this mail behind a state leaves it otherwise than told. */
        boolean contradict(int state, int mail, int keyword, boolean set) {
            int count = countBehind(state);
            for (int back = 0; back < count; back++) {
                int slot = slotOf(latest - back);
                if (mailRow[slot] == mail && holds(keywordsBefore[slot] ^ keywordsAfter[slot], keyword)) {
                    return holds(keywordsAfter[slot], keyword) != set;
                }
            }
            return false;
        }
    }

    /** What a client watches, what it took from the server in its latest sync, and its list of flags. */
    private static final class Client {
        private int box;
        private int width;
        private int syncState;
        private int loads;
        private final int[] windowMails;
        private final int[] windowKeywords;
        private int windowSize;
        private final int[] flagMails;
        private final int[] flagKeywords;
        private final boolean[] flagSets;
        private int flags;

        Client() {
            width = FIRST_WIDTH;
            windowMails = new int[MOST_WIDTH];
            windowKeywords = new int[MOST_WIDTH];
            flagMails = new int[MOST_FLAGS];
            flagKeywords = new int[MOST_FLAGS];
            flagSets = new boolean[MOST_FLAGS];
        }

        boolean hasPlace(int index) {
            return index >= 0 && index < windowSize && index < MOST_WIDTH;
        }

        int placeOf(int mail) {
            for (int place = 0; place < windowSize && place < MOST_WIDTH; place++) {
                if (windowMails[place] == mail) {
                    return place;
                }
            }
            return NOWHERE;
        }

        void note(int place, int keyword, boolean set) {
            if (hasPlace(place)) {
                windowKeywords[place] = (int) with(windowKeywords[place], keyword, set);
                list(windowMails[place], keyword, set);
            }
        }

        private void list(int mail, int keyword, boolean set) {
            if (flags >= 0 && flags < MOST_FLAGS) {
                flagMails[flags] = mail;
                flagKeywords[flags] = keyword;
                flagSets[flags] = set;
                flags++;
            }
        }

        /** Returns how many flags were conflicts; the others stay in the list in their order. */
        int leaveOutConflicts(Server server) {
            int listed = flags;
            flags = 0;
            for (int i = 0; i < listed && i < MOST_FLAGS; i++) {
                if (!isConflict(server, flagMails[i], flagKeywords[i], flagSets[i])) {
                    list(flagMails[i], flagKeywords[i], flagSets[i]);
                }
            }
            return listed - flags;
        }

        private boolean isConflict(Server server, int mail, int keyword, boolean set) {
            if (!server.isThere(mail)) {
                return true;
            }
            Changes changes = server.changes;
            return changes.reachBackTo(syncState) && changes.contradict(syncState, mail, keyword, set);
        }

        void replay(Server server) {
            for (int i = 0; i < flags && i < MOST_FLAGS; i++) {
                server.setKeyword(flagMails[i], flagKeywords[i], flagSets[i]);
            }
            flags = 0;
        }

        void load(Server server) {
            syncState = server.changes.latest;
            long inBox = server.matching(1 << box, NO_KEYWORDS);
            windowSize = Math.min(width, Long.bitCount(inBox));
            for (int place = 0; place < windowSize && place < MOST_WIDTH; place++) {
                int mail = server.latestAt(inBox, place);
                windowMails[place] = mail;
                windowKeywords[place] = server.keywordsOf(mail);
            }
        }
    }
}
