import java.util.List;

/** "A sync goes like this": each sentence of it, with its boundary cases, in its order. */
public final class SyncTest extends Checks {
    public static void main(String[] args) {
        aSyncGoesLikeThis();
        anEmptyList();
        flagsInTheirOrder();
        theMailIsNotThere();
        theMailIsNotThereAndTheServerCannotTell();
        theMailIsInAnotherBox();
        changesBehindTheState();
        changesThatLedToTheState();
        changesAheadOfTheState();
        theOldestOfForty();
        fortyOneBehind();
        asItBegan();
        madeAheadOfThisSync();
        madeByTheOtherClient();
        thisKeywordOfThisMail();
        theLatestOfThem();
        tenConflicts();
        theSameFlagTwice();
        otherwiseTheServerChanges();
        thenTheListIsEmpty();
        takesFromTheServer();
        freshLoadOfANewClient();
        freshLoadBehindASync();
        freshLoadAsItBegan();
        end();
    }

    /** The whole of it: one flag that is replayed, one conflict of each kind, and what the client takes. */
    private static void aSyncGoesLikeThis() {
        MailFollower x = withMails(4);
        x.watch(1, 0, 3);
        x.sync(1);
        x.flagOffline(1, 1, 0, true);
        x.flagOffline(1, 2, 0, true);
        x.flagOffline(1, 3, 0, true);
        x.flag(2, 0, true);
        x.flag(2, 0, false);
        x.destroy(3);
        due("p22 two conflicts", 2, () -> x.sync(1));
        due("p9 the first flag", 1, () -> x.keywords(1));
        due("p9 the second one is left out", 0, () -> x.keywords(2));
        due("p23 the state", 8, () -> x.stateOf(1));
        due("p25 the window", List.of(2, 1, 0), () -> windowMails(x, 1));
        due("p26 the keywords", List.of(0, 1, 0), () -> knownKeywords(x, 1));
        due("p27 no fresh load", 0, () -> x.freshLoads(1));
        due("p21 the list was empty", 1, () -> x.flagOffline(1, 0, 0, true));
    }

    /** "The flags of the list are replayed": none. */
    private static void anEmptyList() {
        MailFollower x = new MailFollower();
        due("p22 an empty server", 0, () -> x.sync(0));
        due("p23 its state", 0, () -> x.stateOf(0));
        due("p24 its window", 0, () -> x.window(0));
        due("p27 its loads", 0, () -> x.freshLoads(0));
        x.add(1, 1, 0);
        due("p22 an empty list", 0, () -> x.sync(0));
        due("p7 no change", 1, x::state);
        due("p22 nothing behind the state", 0, () -> x.sync(0));
        due("p23 the same state", 1, () -> x.stateOf(0));
    }

    /** "replayed in their order". */
    private static void flagsInTheirOrder() {
        MailFollower x = withMails(3);
        x.sync(0);
        x.flagOffline(0, 2, 0, true);
        x.flagOffline(0, 0, 0, true);
        x.flagOffline(0, 2, 1, true);
        x.flagOffline(0, 1, 0, true);
        x.flagOffline(0, 0, 0, false);
        due("p22 no conflicts", 0, () -> x.sync(0));
        due("p22 each is a change", 8, x::state);
        due("p22 the first flag's mail", 4, () -> x.page(3, 1));
        due("p22 and the second one's", 6, () -> x.page(3, 2));
        due("p22 the last flag's mail", List.of(0), () -> changedMails(x, 7, 1));
        due("p22 and that of the one ahead", List.of(0, 1), () -> changedMails(x, 6, 1));
        due("p22 the last one wins", 0, () -> x.keywords(0));
    }

    /** "a conflict [..] if the mail is not there any more". */
    private static void theMailIsNotThere() {
        MailFollower x = withMails(2);
        x.flag(1, 1, true);
        x.sync(0);
        x.flagOffline(0, 1, 0, true);
        x.destroy(1);
        x.flagOffline(0, 1, 1, true);
        x.flagOffline(0, 1, 2, false);
        x.flagOffline(0, 0, 2, true);
        due("p22 set ahead of its end, and behind it", 3, () -> x.sync(0));
        due("p22 the mail that is there", 4, () -> x.keywords(0));
        due("p22 one change", 5, x::state);
        due("p22 the mail stays away", OUT, () -> x.keywords(1));
        due("p24 not in the window", List.of(0), () -> windowMails(x, 0));
    }

    private static void theMailIsNotThereAndTheServerCannotTell() {
        MailFollower x = withMails(2);
        x.sync(0);
        x.flagOffline(0, 1, 0, true);
        x.flagOffline(0, 0, 3, true);
        x.destroy(1);
        flip(x, 0, 0, 40);
        due("p22 not there, 41 changes behind", 1, () -> x.sync(0));
        due("p27 a fresh load", 1, () -> x.freshLoads(0));
        due("p22 the other flag", 8, () -> x.keywords(0));
    }

    /** A mail that lies elsewhere is there. */
    private static void theMailIsInAnotherBox() {
        MailFollower x = withMails(2);
        x.sync(0);
        x.move(1, 32);
        x.flagOffline(0, 1, 0, true);
        due("p22 no conflict", 0, () -> x.sync(0));
        due("p22 the flag", 1, () -> x.keywords(1));
        due("p24 not in the window", List.of(0), () -> windowMails(x, 0));
        due("p21 nor flagged offline any more", ARGUMENT, () -> x.flagOffline(0, 1, 0, false));
    }

    /** "of the changes behind that state [..] some set or took away this keyword of this mail". */
    private static void changesBehindTheState() {
        MailFollower x = withMails(2);
        x.sync(0);
        x.flag(1, 0, true);
        x.flagOffline(0, 1, 0, false);
        due("p22 set by the first change behind the state", 1, () -> x.sync(0));
        due("p22 left out", 1, () -> x.keywords(1));
        x.flag(1, 0, false);
        x.flagOffline(0, 1, 0, true);
        due("p22 taken away by it", 1, () -> x.sync(0));
        due("p22 left out too", 0, () -> x.keywords(1));
        x.flagIf(1, 0, true, 4);
        x.flagOffline(0, 1, 0, false);
        due("p22 set by flagIf", 1, () -> x.sync(0));
    }

    private static void changesThatLedToTheState() {
        MailFollower x = withMails(1);
        x.flag(0, 0, true);
        x.sync(0);
        x.flag(0, 1, true);
        x.flagOffline(0, 0, 0, false);
        due("p22 the change that led to the state", 0, () -> x.sync(0));
        due("p22 taken away", 2, () -> x.keywords(0));
        x.flagOffline(0, 0, 0, true);
        due("p22 changes of its own latest sync", 0, () -> x.sync(0));
        due("p22 set", 3, () -> x.keywords(0));
    }

    /** A change that the server knows, however old, but that is not behind the state. */
    private static void changesAheadOfTheState() {
        for (int between = 0; between <= 42; between++) {
            MailFollower x = withMails(2);
            x.flag(0, 0, true);
            flip(x, 1, 1, between);
            x.sync(0);
            x.flag(0, 3, true);
            x.flagOffline(0, 0, 0, false);
            due("p22 a change ahead of the state, " + between + " others later", 0, () -> x.sync(0));
            due("p22 taken away", 8, () -> x.keywords(0));
        }
    }

    /** "if both the server could tell [..]": 40 changes behind the state. */
    private static void theOldestOfForty() {
        MailFollower x = withMails(2);
        x.sync(0);
        x.flag(0, 0, true);
        flip(x, 1, 1, 39);
        x.flagOffline(0, 0, 0, false);
        due("p22 the oldest of 40 changes", 1, () -> x.sync(0));
        due("p22 left out", 1, () -> x.keywords(0));
        due("p27 no fresh load", 0, () -> x.freshLoads(0));
    }

    /** The server cannot tell: 41 changes behind the state. */
    private static void fortyOneBehind() {
        MailFollower x = withMails(2);
        x.sync(0);
        flip(x, 1, 1, 40);
        x.flag(0, 0, true);
        x.flagOffline(0, 0, 0, false);
        due("p22 41 changes, the latest one against the flag", 0, () -> x.sync(0));
        due("p22 replayed", 0, () -> x.keywords(0));
        due("p27 a fresh load", 1, () -> x.freshLoads(0));
    }

    /** "when the sync began": what the replay pushes out counts all the same. */
    private static void asItBegan() {
        MailFollower x = withMails(2);
        x.sync(0);
        x.flag(0, 0, true);
        flip(x, 1, 1, 39);
        for (int i = 0; i < 9; i++) {
            x.flagOffline(0, 1, 0, i % 2 == 0);
        }
        x.flagOffline(0, 0, 0, false);
        due("p22 the tenth flag, behind nine changes", 1, () -> x.sync(0));
        due("p22 left out", 1, () -> x.keywords(0));
        due("p7 nine changes", 51, x::state);
        due("p27 no fresh load", 0, () -> x.freshLoads(0));
    }

    /** "which were made ahead of this sync": those of the replay do not count. */
    private static void madeAheadOfThisSync() {
        MailFollower x = withMails(1);
        x.sync(0);
        for (int i = 0; i < 10; i++) {
            x.flagOffline(0, 0, 0, i % 2 == 0);
        }
        due("p22 each against the one ahead", 0, () -> x.sync(0));
        due("p7 ten changes", 11, x::state);
        x.flag(0, 3, true);
        x.flagOffline(0, 0, 3, true);
        x.flagOffline(0, 0, 3, false);
        x.flagOffline(0, 0, 3, true);
        due("p22 one against a change of the server", 1, () -> x.sync(0));
        due("p22 it is left out", 8, () -> x.keywords(0));
        due("p7 one change", 12, x::state);
    }

    private static void madeByTheOtherClient() {
        MailFollower x = withMails(1);
        x.sync(0);
        x.sync(1);
        x.flagOffline(1, 0, 2, true);
        x.flagOffline(0, 0, 2, false);
        due("p22 the first client", 0, () -> x.sync(1));
        due("p22 the second against it", 1, () -> x.sync(0));
        due("p22 left as the first one set it", 4, () -> x.keywords(0));
        due("p26 known to the second", List.of(4), () -> knownKeywords(x, 0));
    }

    /** "this keyword of this mail". */
    private static void thisKeywordOfThisMail() {
        MailFollower x = withMails(3);
        x.flag(1, 0, true);
        x.flag(1, 3, true);
        x.sync(0);
        x.flag(1, 1, true);
        x.flag(1, 2, true);
        x.flag(0, 0, true);
        x.flag(2, 3, true);
        x.move(1, 3);
        x.flagOffline(0, 1, 0, false);
        x.flagOffline(0, 1, 3, false);
        due("p22 other keywords, other mails and a move", 0, () -> x.sync(0));
        due("p22 both taken away", 6, () -> x.keywords(1));
    }

    /** "the latest of them leaving it otherwise than the flag". */
    private static void theLatestOfThem() {
        MailFollower x = withMails(1);
        x.sync(0);
        x.flag(0, 0, true);
        x.flag(0, 0, false);
        x.flag(0, 1, true);
        x.flag(0, 1, false);
        x.flag(0, 1, true);
        x.move(0, 3);
        x.flagOffline(0, 0, 0, false);
        x.flagOffline(0, 0, 1, true);
        due("p22 both as the latest leaves it", 0, () -> x.sync(0));
        due("p7 they change nothing", 7, x::state);
        x.flag(0, 0, true);
        x.flag(0, 0, false);
        x.flag(0, 1, false);
        x.flag(0, 1, true);
        x.flagOffline(0, 0, 0, true);
        x.flagOffline(0, 0, 1, false);
        due("p22 both otherwise, though there is no change in the end", 2, () -> x.sync(0));
        due("p22 left out", 2, () -> x.keywords(0));
    }

    /** "Returns how many flags were conflicts": all of a full list. */
    private static void tenConflicts() {
        MailFollower x = withMails(5);
        x.sync(0);
        x.sync(1);
        for (int i = 0; i < 10; i++) {
            x.flagOffline(0, i % 5, i % 2, true);
            x.flagOffline(1, i % 5, i % 2, true);
        }
        for (int i = 0; i < 5; i++) {
            x.flag(i, 0, true);
            x.flag(i, 0, false);
            x.flag(i, 1, true);
            x.flag(i, 1, false);
        }
        due("p22 ten against changes", 10, () -> x.sync(0));
        due("p7 no change", 25, x::state);
        for (int i = 0; i < 5; i++) {
            x.destroy(i);
        }
        due("p22 ten against an empty server", 10, () -> x.sync(1));
        due("p7 no change again", 30, x::state);
        due("p24 an empty window", 0, () -> x.window(1));
    }

    private static void theSameFlagTwice() {
        MailFollower x = withMails(2);
        x.sync(0);
        x.flagOffline(0, 0, 0, true);
        x.flagOffline(0, 0, 0, true);
        x.flagOffline(0, 1, 0, true);
        x.flagOffline(0, 1, 0, true);
        x.flag(0, 0, true);
        x.flag(0, 0, false);
        due("p22 each of both is a conflict", 2, () -> x.sync(0));
        due("p7 each of both is one change together", 5, x::state);
    }

    /** "Otherwise the mail gets or loses the keyword on the server." */
    private static void otherwiseTheServerChanges() {
        MailFollower x = withMails(2);
        x.flag(0, 3, true);
        x.sync(0);
        x.flagOffline(0, 0, 0, true);
        x.flagOffline(0, 0, 3, false);
        x.flagOffline(0, 1, 3, true);
        x.flagOffline(0, 1, 0, false);
        due("p22 no conflicts", 0, () -> x.sync(0));
        due("p22 gets the first keyword and loses the last", 1, () -> x.keywords(0));
        due("p22 gets the last", 8, () -> x.keywords(1));
        due("p7 what it has not is no change", 6, x::state);
        due("p16 found by it", List.of(1), () -> result(x, 0, 3));
    }

    /** "Then the list is empty": what was left out is not replayed later. */
    private static void thenTheListIsEmpty() {
        MailFollower x = withMails(1);
        x.sync(0);
        x.flag(0, 0, true);
        x.flagOffline(0, 0, 0, false);
        x.flagOffline(0, 0, 1, true);
        due("p22 one conflict", 1, () -> x.sync(0));
        x.flag(0, 1, false);
        due("p22 the list is empty", 0, () -> x.sync(0));
        due("p22 neither is replayed again", 1, () -> x.keywords(0));
        due("p21 the first flag of the list", 1, () -> x.flagOffline(0, 0, 2, true));
    }

    /** "the client takes the state, its window and the keywords of the mails in it from the server". */
    private static void takesFromTheServer() {
        MailFollower x = withMails(2);
        x.sync(0);
        x.flag(0, 0, true);
        x.flagOffline(0, 0, 0, false);
        x.flagOffline(0, 1, 2, true);
        x.add(9, 1, 0);
        x.flag(2, 1, true);
        x.sync(0);
        due("p23 with its own changes", 6, () -> x.stateOf(0));
        due("p25 the new mail too", List.of(2, 1, 0), () -> windowMails(x, 0));
        due("p26 what was left out is known as it is", List.of(2, 4, 1), () -> knownKeywords(x, 0));
        x.watch(0, 5, 10);
        x.sync(0);
        due("p24 an empty box", List.of(), () -> windowMails(x, 0));
        due("p25 no such mail", OUT, () -> x.windowAt(0, 0));
        due("p26 no such mail either", OUT, () -> x.known(0, 0));
        due("p21 none to flag", ARGUMENT, () -> x.flagOffline(0, 2, 0, true));
    }

    /** "If the server cannot tell [..], it is a fresh load": the state of a new client is 0. */
    private static void freshLoadOfANewClient() {
        MailFollower x = withMails(40);
        x.sync(0);
        due("p27 40 changes behind the state 0", 0, () -> x.freshLoads(0));
        x.flag(0, 0, true);
        x.sync(1);
        due("p27 41 changes behind the state 0", 1, () -> x.freshLoads(1));
        due("p23 the state", 41, () -> x.stateOf(1));
        due("p24 the window", 5, () -> x.window(1));
        x.sync(1);
        due("p27 nothing behind its state now", 1, () -> x.freshLoads(1));
        x.sync(0);
        due("p27 one change behind the other one's", 0, () -> x.freshLoads(0));
    }

    private static void freshLoadBehindASync() {
        MailFollower x = withMails(1);
        x.sync(0);
        for (int i = 1; i <= 2; i++) {
            int loads = i;
            flip(x, 0, 0, 40);
            x.sync(0);
            due("p27 40 changes behind its sync", loads - 1, () -> x.freshLoads(0));
            flip(x, 0, 0, 41);
            x.sync(0);
            due("p27 41 changes behind its sync", loads, () -> x.freshLoads(0));
        }
        due("p27 never synced", 0, () -> x.freshLoads(1));
    }

    /** "as things are at the beginning of the sync". */
    private static void freshLoadAsItBegan() {
        MailFollower x = withMails(2);
        x.sync(0);
        flip(x, 1, 1, 40);
        for (int i = 0; i < 10; i++) {
            x.flagOffline(0, 0, 0, i % 2 == 0);
        }
        due("p22 no conflicts", 0, () -> x.sync(0));
        due("p27 40 at the beginning, 50 in the end", 0, () -> x.freshLoads(0));
        due("p23 50 behind", 52, () -> x.stateOf(0));
        due("p12 the server cannot tell any more", false, () -> x.canTell(2));
    }
}
