import java.util.List;

/** Promises 20 to 27: the least and the greatest that is allowed; SyncTest has the sync, RefusalsTest what is refused. */
public final class ClientsEdgesTest extends Checks {
    public static void main(String[] args) {
        watchesTheLeastAndTheGreatest();
        watchesUntilTheNextSync();
        watchesTheLastTold();
        flagsAnEmptyWindow();
        flagsTheFirstAndTheLast();
        flagsTheLeastAndTheGreatest();
        flagsWhatIsKnown();
        flagsTen();
        statesOfClients();
        windowsOfNoneAndTen();
        windowsOfSixty();
        knownOfNoneAndAll();
        loadsOfBoth();
        end();
    }

    /** Promise 20: "0 or 1", "0 to 5", "1 to 10". */
    private static void watchesTheLeastAndTheGreatest() {
        MailFollower x = new MailFollower();
        for (int i = 0; i < 12; i++) {
            x.add(i, i % 2 == 0 ? 1 : 32, 0);
            x.add(i, i % 2 == 0 ? 1 : 32, 0);
        }
        for (int client = 0; client < 2; client++) {
            watches(x, client, 0, 1, List.of(21));
            watches(x, client, 0, 10, List.of(21, 20, 17, 16, 13, 12, 9, 8, 5, 4));
            watches(x, client, 5, 1, List.of(23));
            watches(x, client, 5, 10, List.of(23, 22, 19, 18, 15, 14, 11, 10, 7, 6));
            watches(x, client, 3, 10, List.of());
        }
        due("p20 no change", 24, x::state);
    }

    private static void watches(MailFollower x, int client, int box, int width, List<Integer> window) {
        due("p20 allowed", "nothing", () -> watched(x, client, box, width));
        x.sync(client);
        due("p20 the box " + box + " with the width " + width, window, () -> windowMails(x, client));
    }

    /** "Its state, window, keywords and list stay as they are until its next sync." */
    private static void watchesUntilTheNextSync() {
        MailFollower x = withMails(7);
        x.flag(6, 1, true);
        x.sync(0);
        x.flagOffline(0, 6, 0, true);
        x.flagOffline(0, 2, 3, true);
        x.move(1, 32);
        x.watch(0, 5, 10);
        due("p20 the state", 8, () -> x.stateOf(0));
        due("p20 the window", numbers(6, 2), () -> windowMails(x, 0));
        due("p20 the keywords", List.of(3, 0, 0, 0, 8), () -> knownKeywords(x, 0));
        due("p20 a mail of the box watched is not in it", ARGUMENT, () -> x.flagOffline(0, 1, 0, true));
        due("p20 the list", 3, () -> x.flagOffline(0, 6, 2, true));
        due("p20 the list is replayed", 0, () -> x.sync(0));
        due("p20 the state then", 12, () -> x.stateOf(0));
        due("p20 the window then", List.of(1), () -> windowMails(x, 0));
        due("p20 the flags then", 7, () -> x.keywords(6));
        due("p20 the last flag of the window", 8, () -> x.keywords(2));
    }

    private static void watchesTheLastTold() {
        MailFollower x = withMails(11);
        x.watch(0, 0, 10);
        x.watch(0, 5, 1);
        x.watch(0, 0, 2);
        x.watch(1, 1, 1);
        x.sync(0);
        due("p20 told thrice", List.of(10, 9), () -> windowMails(x, 0));
        x.watch(0, 0, 10);
        x.sync(0);
        due("p20 wider", numbers(10, 1), () -> windowMails(x, 0));
        x.watch(0, 0, 1);
        due("p20 as wide as it was until the next sync", numbers(10, 1), () -> windowMails(x, 0));
        x.sync(0);
        due("p20 narrower", List.of(10), () -> windowMails(x, 0));
        x.sync(0);
        due("p20 as before", List.of(10), () -> windowMails(x, 0));
        x.sync(1);
        due("p20 the other client's own", List.of(), () -> windowMails(x, 1));
    }

    /** Promise 21: "the number of a mail in its window": none is in an empty one. */
    private static void flagsAnEmptyWindow() {
        MailFollower x = withMails(60);
        for (int m = -1; m <= 60; m++) {
            int mail = m;
            due("p21 ahead of its first sync", ARGUMENT, () -> x.flagOffline(0, mail, 0, true));
        }
        x.watch(0, 1, 10);
        x.sync(0);
        for (int m = -1; m <= 60; m++) {
            int mail = m;
            due("p21 an empty box", ARGUMENT, () -> x.flagOffline(0, mail, 0, true));
        }
        due("p21 nothing is listed", 0, () -> x.sync(0));
        due("p21 no change", 60, x::state);
    }

    private static void flagsTheFirstAndTheLast() {
        MailFollower x = withMails(60);
        x.watch(0, 0, 10);
        x.sync(0);
        due("p21 the first", 1, () -> x.flagOffline(0, 59, 0, true));
        due("p21 the last of ten", 2, () -> x.flagOffline(0, 50, 0, true));
        due("p21 the one behind it", ARGUMENT, () -> x.flagOffline(0, 49, 0, true));
        due("p21 the one ahead of it", ARGUMENT, () -> x.flagOffline(0, 60, 0, true));
        due("p21 known", List.of(1, 0, 0, 0, 0, 0, 0, 0, 0, 1), () -> knownKeywords(x, 0));
        MailFollower one = withMails(1);
        one.sync(1);
        due("p21 the mail 0", 1, () -> one.flagOffline(1, 0, 0, true));
        due("p21 not in the other window", ARGUMENT, () -> one.flagOffline(0, 0, 0, true));
    }

    /** "0 to 3", "whether it is set". */
    private static void flagsTheLeastAndTheGreatest() {
        for (int client = 0; client < 2; client++) {
            int owner = client;
            MailFollower x = withMails(1);
            x.sync(owner);
            int flags = 0;
            for (int k : new int[] {0, 3}) {
                int listed = flags;
                due("p21 set", listed + 1, () -> x.flagOffline(owner, 0, k, true));
                due("p21 known with it", 1 << k, () -> x.known(owner, 0));
                due("p21 not set", listed + 2, () -> x.flagOffline(owner, 0, k, false));
                due("p21 known without it", 0, () -> x.known(owner, 0));
                flags += 2;
            }
            due("p21 the server", 0, () -> x.keywords(0));
            due("p21 no change", 1, x::state);
        }
    }

    /** "it is added to the list", though the client knows the mail so already. */
    private static void flagsWhatIsKnown() {
        MailFollower x = withMails(1);
        x.flag(0, 0, true);
        x.sync(0);
        due("p21 has it", 1, () -> x.flagOffline(0, 0, 0, true));
        due("p21 has it not", 2, () -> x.flagOffline(0, 0, 1, false));
        due("p21 known as before", 1, () -> x.known(0, 0));
        x.flag(0, 0, false);
        due("p22 the first one was listed, and is a conflict", 1, () -> x.sync(0));
    }

    /** "if the list has 10 flags". */
    private static void flagsTen() {
        MailFollower x = withMails(2);
        x.sync(0);
        for (int i = 1; i <= 9; i++) {
            x.flagOffline(0, 0, 0, i % 2 == 1);
        }
        due("p21 the tenth", 10, () -> x.flagOffline(0, 1, 3, true));
        due("p21 the eleventh", STATE, () -> x.flagOffline(0, 1, 2, true));
        due("p21 the eleventh is not known", List.of(8, 1), () -> knownKeywords(x, 0));
        due("p22 no conflicts", 0, () -> x.sync(0));
        due("p22 ten are replayed", 12, x::state);
        due("p22 the tenth is one of them", 8, () -> x.keywords(1));
        due("p22 and the ninth", 1, () -> x.keywords(0));
        due("p21 the first again", 1, () -> x.flagOffline(0, 1, 2, true));
    }

    /** Promise 23: 0, and the present state at the end of the sync. */
    private static void statesOfClients() {
        MailFollower x = withMails(60);
        due("p23 never synced", 0, () -> x.stateOf(1));
        x.sync(1);
        due("p23 60 changes", 60, () -> x.stateOf(1));
        due("p23 the other one", 0, () -> x.stateOf(0));
        x.destroy(59);
        due("p23 as it was", 60, () -> x.stateOf(1));
        for (int i = 0; i < 10; i++) {
            x.flagOffline(1, 55, 0, i % 2 == 0);
        }
        x.sync(1);
        due("p23 behind ten of its own", 71, () -> x.stateOf(1));
    }

    /** Promises 24 and 25: "0 for the first one". */
    private static void windowsOfNoneAndTen() {
        MailFollower x = withMails(10);
        x.watch(0, 0, 10);
        due("p24 none", 0, () -> x.window(0));
        due("p25 none", OUT, () -> x.windowAt(0, 0));
        x.sync(0);
        due("p24 ten", 10, () -> x.window(0));
        due("p25 the first", 9, () -> x.windowAt(0, 0));
        due("p25 the last", 0, () -> x.windowAt(0, 9));
        due("p25 an eleventh", OUT, () -> x.windowAt(0, 10));
        due("p25 ahead of the first", OUT, () -> x.windowAt(0, -1));
        x.destroy(4);
        x.sync(0);
        due("p24 nine", 9, () -> x.window(0));
        due("p25 the last of nine", 0, () -> x.windowAt(0, 8));
        due("p25 no tenth", OUT, () -> x.windowAt(0, 9));
        for (int i = 0; i < 10; i++) {
            x.move(i == 4 ? 0 : i, 2);
        }
        x.sync(0);
        due("p24 none again", 0, () -> x.window(0));
        due("p25 none again", OUT, () -> x.windowAt(0, 0));
        due("p26 none again", OUT, () -> x.known(0, 0));
    }

    private static void windowsOfSixty() {
        MailFollower x = new MailFollower();
        for (int i = 0; i < 60; i++) {
            x.add(i < 30 ? 1 : 0, 1, 0);
        }
        x.watch(1, 0, 10);
        x.sync(1);
        due("p24 ten of 60", 10, () -> x.window(1));
        due("p25 the latest, by falling numbers", numbers(29, 20), () -> windowMails(x, 1));
        due("p25 the mail behind the window", OUT, () -> x.windowAt(1, 10));
    }

    /** Promise 26: none and all keywords. */
    private static void knownOfNoneAndAll() {
        MailFollower x = withMails(10);
        for (int k = 0; k < 4; k++) {
            x.flag(0, k, true);
        }
        x.watch(0, 0, 10);
        x.sync(0);
        due("p26 none, the first", 0, () -> x.known(0, 0));
        due("p26 all, the last", 15, () -> x.known(0, 9));
        for (int k = 0; k < 4; k++) {
            x.flagOffline(0, 9, k, true);
            x.flagOffline(0, 0, k, false);
        }
        due("p26 all, the first", 15, () -> x.known(0, 0));
        due("p26 none, the last", 0, () -> x.known(0, 9));
        due("p26 an eleventh", OUT, () -> x.known(0, 10));
        due("p26 ahead of the first", OUT, () -> x.known(0, -1));
        x.flag(9, 0, true);
        x.flag(5, 0, true);
        due("p26 as the client knows them", 0, () -> x.known(0, 4));
        x.destroy(9);
        due("p26 of a mail that is gone", 15, () -> x.known(0, 0));
        due("p22 four flags of the mail that is gone", 4, () -> x.sync(0));
        due("p26 as the server knows them", List.of(0, 0, 0, 1, 0, 0, 0, 0, 0), () -> knownKeywords(x, 0));
    }

    /** Promise 27: each client's own. */
    private static void loadsOfBoth() {
        MailFollower x = withMails(41);
        x.sync(0);
        due("p27 41 changes behind the state 0", 1, () -> x.freshLoads(0));
        due("p27 no sync yet", 0, () -> x.freshLoads(1));
        flip(x, 0, 0, 40);
        x.sync(0);
        due("p27 40 changes behind the state 41", 1, () -> x.freshLoads(0));
        x.sync(1);
        due("p27 81 changes behind the state 0", 1, () -> x.freshLoads(1));
        flip(x, 0, 0, 41);
        due("p27 no sync since then", 1, () -> x.freshLoads(1));
        x.sync(1);
        due("p27 a second one", 2, () -> x.freshLoads(1));
        due("p27 the other one's", 1, () -> x.freshLoads(0));
    }
}
