/** Promises 20 to 27: clients. */
public final class ClientsTest extends Checks {
    public static void main(String[] args) {
        watchWaits();
        flagsOffline();
        flagsOfflineInTheWindowAsItWas();
        fullList();
        replays();
        conflictsWithTheLatest();
        conflictsAheadOfTheSync();
        conflictsPushedOut();
        conflictsBetweenClients();
        cannotTell();
        freshLoads();
        refuses();
        end();
    }

    private static void watchWaits() {
        MailFollower x = withMails(12);
        x.add(0, 2, 0);
        x.flag(11, 2, true);
        x.sync(0);
        x.flagOffline(0, 11, 0, true);
        x.watch(0, 1, 1);
        due("p20 state stays", 14, () -> x.stateOf(0));
        due("p20 window stays", 5, () -> x.window(0));
        due("p20 mails stay", 11, () -> x.windowAt(0, 0));
        due("p20 keywords stay", 5, () -> x.known(0, 0));
        due("p20 the list stays", 2, () -> x.flagOffline(0, 7, 0, true));
        due("p20 no change", 14, x::state);
        due("p22 sync", 0, () -> x.sync(0));
        due("p20 the box", 12, () -> x.windowAt(0, 0));
        due("p24 fewer than before", 1, () -> x.window(0));
        due("p25 end", OUT, () -> x.windowAt(0, 1));
        x.watch(0, 0, 10);
        x.sync(0);
        due("p20 width 10", 10, () -> x.window(0));
        due("p25 last", 2, () -> x.windowAt(0, 9));
        due("p24 the other client", 0, () -> x.window(1));
        x.watch(1, 0, 1);
        x.sync(1);
        due("p20 width 1", 1, () -> x.window(1));
        x.watch(1, 5, 10);
        x.sync(1);
        due("p20 an empty box", 0, () -> x.window(1));
    }

    private static void flagsOffline() {
        MailFollower x = withMails(6);
        x.sync(0);
        due("p21 not in the window", ARGUMENT, () -> x.flagOffline(0, 0, 0, true));
        due("p21 not in the other window", ARGUMENT, () -> x.flagOffline(1, 5, 0, true));
        due("p21 first", 1, () -> x.flagOffline(0, 5, 3, true));
        due("p26 known with", 8, () -> x.known(0, 0));
        due("p9 not on the server", 0, () -> x.keywords(5));
        due("p21 no change of the state", 6, x::state);
        due("p21 what is known already is listed", 2, () -> x.flagOffline(0, 5, 3, true));
        due("p21 third", 3, () -> x.flagOffline(0, 5, 3, false));
        due("p26 known without", 0, () -> x.known(0, 0));
        due("p21 lowest in the window", 4, () -> x.flagOffline(0, 1, 1, true));
        due("p26 the last one", 2, () -> x.known(0, 4));
        due("p21 keyword -1", ARGUMENT, () -> x.flagOffline(0, 5, -1, true));
        due("p21 keyword 4", ARGUMENT, () -> x.flagOffline(0, 5, 4, true));
        due("p21 client 2", ARGUMENT, () -> x.flagOffline(2, 5, 0, true));
        due("p21 client -1", ARGUMENT, () -> x.flagOffline(-1, 5, 0, true));
        due("p21 mail -1", ARGUMENT, () -> x.flagOffline(0, -1, 0, true));
        due("p21 mail 60", ARGUMENT, () -> x.flagOffline(0, 60, 0, true));
        due("p21 wrong ones are not listed", 5, () -> x.flagOffline(0, 1, 1, true));
    }

    private static void flagsOfflineInTheWindowAsItWas() {
        MailFollower x = withMails(2);
        x.sync(0);
        x.destroy(1);
        x.add(9, 1, 0);
        x.flag(0, 0, true);
        due("p21 a destroyed mail in the window", 1, () -> x.flagOffline(0, 1, 0, true));
        due("p21 a new mail", ARGUMENT, () -> x.flagOffline(0, 2, 0, true));
        due("p24 as it was", 2, () -> x.window(0));
        due("p26 as it was", 0, () -> x.known(0, 1));
        due("p23 as it was", 2, () -> x.stateOf(0));
        due("p22 the mail is not there", 1, () -> x.sync(0));
        due("p25 the new mail", 2, () -> x.windowAt(0, 0));
        due("p26 from the server", 1, () -> x.known(0, 1));
        due("p23 the state", 5, () -> x.stateOf(0));
    }

    private static void fullList() {
        MailFollower x = withMails(1);
        x.sync(0);
        x.sync(1);
        for (int i = 0; i < 10; i++) {
            int keyword = i % 4;
            due("p21 listed", i + 1, () -> x.flagOffline(0, 0, keyword, true));
        }
        due("p21 full", STATE, () -> x.flagOffline(0, 0, 0, false));
        due("p21 full changes nothing", 15, () -> x.known(0, 0));
        due("p21 keyword ahead of full", ARGUMENT, () -> x.flagOffline(0, 0, 4, true));
        due("p21 mail ahead of full", ARGUMENT, () -> x.flagOffline(0, 1, 0, true));
        due("p21 the other list", 1, () -> x.flagOffline(1, 0, 0, true));
        due("p22 no conflicts", 0, () -> x.sync(0));
        due("p22 what changes nothing is no change", 5, x::state);
        due("p22 the list is empty", 1, () -> x.flagOffline(0, 0, 0, false));
    }

    private static void replays() {
        MailFollower x = withMails(2);
        x.sync(0);
        x.flagOffline(0, 1, 0, true);
        x.flagOffline(0, 0, 2, true);
        x.flagOffline(0, 1, 0, false);
        x.flagOffline(0, 1, 1, true);
        due("p22 no conflicts", 0, () -> x.sync(0));
        due("p22 replayed in their order", 2, () -> x.keywords(1));
        due("p22 the other mail", 4, () -> x.keywords(0));
        due("p22 each is a change", 6, x::state);
        due("p22 the order on a page", 3, () -> x.page(2, 1));
        due("p23 the state behind them", 6, () -> x.stateOf(0));
        due("p26 known", 2, () -> x.known(0, 0));
        due("p22 nothing to do", 0, () -> x.sync(0));
        due("p22 own changes are behind the client", 1, () -> x.flagOffline(0, 1, 1, false));
        due("p22 no conflict with own changes", 0, () -> x.sync(0));
        due("p9 taken away", 0, () -> x.keywords(1));
    }

    private static void conflictsWithTheLatest() {
        MailFollower x = withMails(2);
        x.sync(0);
        x.flag(0, 0, true);
        x.flag(0, 0, false);
        x.flag(0, 1, true);
        x.flag(1, 2, true);
        x.flag(1, 2, false);
        x.flag(1, 2, true);
        x.move(0, 3);
        x.flagOffline(0, 0, 0, true);
        x.flagOffline(0, 0, 0, false);
        x.flagOffline(0, 0, 1, true);
        x.flagOffline(0, 0, 2, true);
        x.flagOffline(0, 1, 2, false);
        x.flagOffline(0, 1, 1, true);
        due("p22 keyword 0 set and keyword 2 taken away", 2, () -> x.sync(0));
        due("p22 mail 0", 6, () -> x.keywords(0));
        due("p22 mail 1", 6, () -> x.keywords(1));
        due("p22 state", 11, x::state);
    }

    private static void conflictsAheadOfTheSync() {
        MailFollower x = withMails(1);
        x.flag(0, 0, true);
        x.sync(0);
        due("p22 changes up to the latest sync do not count", 1, () -> x.flagOffline(0, 0, 0, false));
        x.flagOffline(0, 0, 0, true);
        x.flagOffline(0, 0, 0, false);
        due("p22 nor those of the sync", 0, () -> x.sync(0));
        due("p9 taken away", 0, () -> x.keywords(0));
        due("p22 state", 5, x::state);
    }

    private static void conflictsPushedOut() {
        MailFollower x = withMails(3);
        x.sync(0);
        x.flag(0, 0, true);
        x.flag(0, 0, false);
        flip(x, 2, 3, 38);
        due("p12 all behind the client are known", true, () -> x.canTell(3));
        for (int i = 0; i < 4; i++) {
            x.flagOffline(0, 1, i, true);
        }
        x.flagOffline(0, 0, 0, true);
        due("p22 a conflict, though the replay pushes it out", 1, () -> x.sync(0));
        due("p27 no fresh load", 0, () -> x.freshLoads(0));
        due("p9 left out", 0, () -> x.keywords(0));
        due("p9 replayed", 15, () -> x.keywords(1));
    }

    private static void conflictsBetweenClients() {
        MailFollower x = withMails(1);
        x.sync(0);
        x.sync(1);
        x.flagOffline(0, 0, 0, true);
        x.flagOffline(0, 0, 0, false);
        x.flagOffline(1, 0, 0, true);
        due("p22 first", 0, () -> x.sync(0));
        due("p22 the second meets it", 1, () -> x.sync(1));
        due("p9 left", 0, () -> x.keywords(0));
        due("p23 both", 3, () -> x.stateOf(1));
    }

    private static void cannotTell() {
        MailFollower x = withMails(2);
        x.sync(0);
        x.sync(1);
        flip(x, 0, 0, 40);
        x.flagOffline(0, 0, 0, true);
        due("p22 40 changes are known", 1, () -> x.sync(0));
        x.flag(0, 1, true);
        x.flagOffline(1, 0, 0, true);
        x.flagOffline(1, 0, 1, false);
        x.flagOffline(1, 1, 3, true);
        x.destroy(1);
        due("p22 only the mail that is not there", 1, () -> x.sync(1));
        due("p9 replayed", 1, () -> x.keywords(0));
        due("p27 fresh load", 1, () -> x.freshLoads(1));
        due("p27 none", 0, () -> x.freshLoads(0));
        due("p24 window", 1, () -> x.window(1));
        due("p26 known", 1, () -> x.known(1, 0));
    }

    private static void freshLoads() {
        MailFollower x = withMails(1);
        flip(x, 0, 0, 39);
        x.sync(0);
        due("p27 40 changes", 0, () -> x.freshLoads(0));
        flip(x, 0, 0, 1);
        x.sync(1);
        due("p27 41 changes", 1, () -> x.freshLoads(1));
        x.sync(1);
        due("p27 a sync that is none", 1, () -> x.freshLoads(1));
        for (int i = 0; i < 4; i++) {
            x.flagOffline(0, 0, i, (i & 1) == 1);
        }
        flip(x, 0, 0, 38);
        x.sync(0);
        due("p27 as things are at the beginning", 0, () -> x.freshLoads(0));
        flip(x, 0, 0, 41);
        x.sync(1);
        due("p27 the second", 2, () -> x.freshLoads(1));
    }

    private static void refuses() {
        MailFollower x = withMails(1);
        for (int c : new int[] {-1, 2, Integer.MIN_VALUE, Integer.MAX_VALUE}) {
            due("p20 client", ARGUMENT, () -> watched(x, c, 0, 1));
            due("p22 client", ARGUMENT, () -> x.sync(c));
            due("p23 client", ARGUMENT, () -> x.stateOf(c));
            due("p24 client", ARGUMENT, () -> x.window(c));
            due("p25 client ahead of index", ARGUMENT, () -> x.windowAt(c, -1));
            due("p26 client ahead of index", ARGUMENT, () -> x.known(c, -1));
            due("p27 client", ARGUMENT, () -> x.freshLoads(c));
        }
        due("p20 box -1", ARGUMENT, () -> watched(x, 0, -1, 1));
        due("p20 box 6", ARGUMENT, () -> watched(x, 0, 6, 1));
        due("p20 width 0", ARGUMENT, () -> watched(x, 0, 1, 0));
        due("p20 width 11", ARGUMENT, () -> watched(x, 0, 1, 11));
        x.sync(0);
        due("p20 wrong calls change nothing", 1, () -> x.window(0));
        for (int i : new int[] {-1, 1, 10, Integer.MAX_VALUE, Integer.MIN_VALUE}) {
            due("p25 index", OUT, () -> x.windowAt(0, i));
            due("p26 index", OUT, () -> x.known(0, i));
        }
        due("p25 first", 0, () -> x.windowAt(0, 0));
        due("p26 first", 0, () -> x.known(0, 0));
        due("p23 the other client", 0, () -> x.stateOf(1));
    }
}
