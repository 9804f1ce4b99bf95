import java.util.List;
import java.util.function.Consumer;

/**
 * The 512 calls of "What it is", and each sentence of "Terms" ahead of "A sync goes like this", in their order. Those
 * about a sync are in {@link SyncTest}, those about exceptions in {@link RefusalsTest}, those about the interface in
 * {@link FaceTest}.
 */
public final class TermsTest extends Checks {
    public static void main(String[] args) {
        fiveHundredAndTwelveCalls();
        aFollowerHoldsWhatAFreshOneLoads();
        sixtyMailsComeInAll();
        timesFrom0To9999();
        boxesFrom0To5();
        keywordsFrom0To3();
        threadsFrom0To9();
        thereUntilDestroyed();
        setsOfBoxesAreSums();
        setsOfKeywordsAreSums();
        theStateGrowsBy1();
        nothingIsNoChange();
        fortyChangesAreKnown();
        eachChangePushesOneOut();
        theLatestFortyAtEveryState();
        created();
        destroyed();
        updated();
        cameAndDestroyed();
        changesThatGoRoundThePlaces();
        fallingTimesAndNumbers();
        emptyResults();
        clients0And1();
        aBoxWithAWidth();
        asManyAsTheWidth();
        theWindowHasNoKeyword();
        keepsTheLatestSync();
        tenFlags();
        eachAMailAKeywordAndWhetherItIsSet();
        end();
    }

    /** "An object is used for at most 512 calls after it has been made". */
    private static void fiveHundredAndTwelveCalls() {
        MailFollower x = new MailFollower();
        x.add(1, 1, 0);
        for (int i = 0; i < 500; i++) {
            x.flag(0, 0, i % 2 == 0);
        }
        due("terms: call 502, sync", 0, () -> x.sync(0));
        due("terms: call 503, freshLoads", 1, () -> x.freshLoads(0));
        due("terms: call 504, canTell", true, () -> x.canTell(461));
        due("terms: call 505, canTell", false, () -> x.canTell(460));
        due("terms: call 506, changed", 1, () -> x.changed(461, 1));
        due("terms: call 507, page", 501, () -> x.page(461, 1));
        due("terms: call 508, flagOffline", 1, () -> x.flagOffline(0, 0, 3, true));
        due("terms: call 509, sync", 0, () -> x.sync(0));
        due("terms: call 510, stateOf", 502, () -> x.stateOf(0));
        due("terms: call 511, known", 8, () -> x.known(0, 0));
        due("terms: call 512, state", 502, x::state);
        MailFollower changedAlone = new MailFollower();
        changedAlone.add(1, 1, 0);
        for (int i = 0; i < 510; i++) {
            changedAlone.flag(0, 0, i % 2 == 0);
        }
        due("terms: call 512, page", 511, () -> changedAlone.page(471, 1));
    }

    /** "A client that follows all changes holds what a fresh one would load." */
    private static void aFollowerHoldsWhatAFreshOneLoads() {
        MailFollower x = new MailFollower();
        x.watch(0, 1, 3);
        x.watch(1, 1, 3);
        for (int i = 0; i < 16; i++) {
            x.add(i * 7 % 5, 1 + i % 3, 0);
            x.sync(0);
            x.flag(i, i % 4, true);
            x.sync(0);
            if (i >= 2) {
                x.move(i - 2, 2 + i % 2);
                x.sync(0);
            }
            if (i >= 5 && i % 5 == 0) {
                x.destroy(i - 5);
                x.sync(0);
            }
        }
        x.sync(1);
        due("terms: the follower has no fresh load", 0, () -> x.freshLoads(0));
        due("terms: the fresh one has", 1, () -> x.freshLoads(1));
        due("terms: the same state", x.stateOf(1), () -> x.stateOf(0));
        due("terms: the same window", windowMails(x, 1), () -> windowMails(x, 0));
        due("terms: the same keywords", knownKeywords(x, 1), () -> knownKeywords(x, 0));
        due("terms: the window", result(x, 1, ANY).subList(0, 3), () -> windowMails(x, 0));
    }

    /** "Mails are numbered from 0 in the order in which they come; at most 60 come in all." */
    private static void sixtyMailsComeInAll() {
        MailFollower x = new MailFollower();
        for (int i = 0; i < 59; i++) {
            int number = i;
            due("terms: number", number, () -> x.add(59 - number, 1, 0));
        }
        x.destroy(0);
        due("terms: a refused mail", ARGUMENT, () -> x.add(10000, 1, 0));
        due("terms: the last number", 59, () -> x.add(0, 1, 0));
        due("terms: the 61st, though 59 are there", STATE, () -> x.add(0, 1, 0));
        for (int i = 1; i < 60; i++) {
            x.destroy(i);
        }
        due("terms: none is there", 0, x::mails);
        due("terms: the 61st, though none is there", STATE, () -> x.add(0, 1, 0));
        due("terms: 60 came and were destroyed", 120, x::state);
    }

    /** "A mail has a time from 0 to 9999". */
    private static void timesFrom0To9999() {
        MailFollower x = new MailFollower();
        x.add(1, 1, 0);
        x.add(9999, 1, 0);
        x.add(0, 1, 0);
        x.add(9998, 1, 0);
        x.add(9999, 1, 0);
        x.add(0, 1, 0);
        due("terms: times", List.of(4, 1, 3, 0, 5, 2), () -> result(x, 0, ANY));
        due("terms: a time of -1", ARGUMENT, () -> x.add(-1, 1, 0));
        due("terms: a time of 10000", ARGUMENT, () -> x.add(10000, 1, 0));
    }

    /** "lies in one or more of the boxes 0 to 5". */
    private static void boxesFrom0To5() {
        MailFollower x = new MailFollower();
        for (int b = 0; b < 6; b++) {
            x.add(0, 1 << b, 0);
        }
        x.add(0, 63, 0);
        for (int b = 0; b < 6; b++) {
            int box = b;
            due("terms: one box and all boxes", List.of(6, box), () -> result(x, box, ANY));
        }
        due("terms: no box", ARGUMENT, () -> x.add(0, 0, 0));
        due("terms: moved to no box", ARGUMENT, () -> x.move(6, 0));
        due("terms: the box -1", ARGUMENT, () -> x.found(-1, ANY));
        due("terms: the box 6", ARGUMENT, () -> x.found(6, ANY));
        due("terms: a set with the box 6", ARGUMENT, () -> x.add(0, 64, 0));
    }

    /** "has some of the keywords 0 to 3". */
    private static void keywordsFrom0To3() {
        MailFollower x = withMails(1);
        due("terms: no keywords", 0, () -> x.keywords(0));
        for (int k = 0; k < 4; k++) {
            int keyword = k;
            due("terms: without the keyword", List.of(), () -> result(x, 0, keyword));
            x.flag(0, keyword, true);
            due("terms: with the keyword", List.of(0), () -> result(x, 0, keyword));
        }
        due("terms: all keywords", 15, () -> x.keywords(0));
        due("terms: the keyword -1", ARGUMENT, () -> x.flag(0, -1, true));
        due("terms: the keyword 4", ARGUMENT, () -> x.flag(0, 4, true));
    }

    /** "belongs to a thread from 0 to 9". */
    private static void threadsFrom0To9() {
        MailFollower x = new MailFollower();
        for (int t = 0; t < 10; t++) {
            for (int i = 0; i < t; i++) {
                x.add(0, 1, t);
            }
        }
        for (int t = 0; t < 10; t++) {
            int thread = t;
            due("terms: as many mails as the thread's number", thread, () -> x.inThread(thread));
        }
        due("terms: the thread -1", ARGUMENT, () -> x.inThread(-1));
        due("terms: the thread 10", ARGUMENT, () -> x.inThread(10));
    }

    /** "It is there until it is destroyed." */
    private static void thereUntilDestroyed() {
        MailFollower x = new MailFollower();
        due("terms: not yet come", OUT, () -> x.keywords(0));
        x.add(5, 63, 3);
        x.flag(0, 2, true);
        for (int b = 0; b < 6; b++) {
            x.move(0, 1 << b);
            due("terms: there in any box", 1, x::mails);
        }
        x.destroy(0);
        due("terms: not counted", 0, x::mails);
        due("terms: not in its thread", 0, () -> x.inThread(3));
        due("terms: in no result", 0, () -> x.found(5, ANY));
        due("terms: in no result of its keyword", 0, () -> x.found(5, 2));
        due("terms: no keywords", OUT, () -> x.keywords(0));
        due("terms: not moved", OUT, () -> x.move(0, 1));
        due("terms: not flagged", OUT, () -> x.flag(0, 0, true));
        due("terms: not flagged at a state", OUT, () -> x.flagIf(0, 0, true, 9));
        due("terms: not destroyed again", OUT, () -> x.destroy(0));
    }

    /** "Sets of boxes and keywords are told as sums of 2 to the power of their numbers." */
    private static void setsOfBoxesAreSums() {
        MailFollower x = withMails(1);
        for (int s = 1; s < 64; s++) {
            int set = s;
            due("terms: the boxes before", Math.max(1, set - 1), () -> x.move(0, set));
            for (int b = 0; b < 6; b++) {
                int box = b;
                due("terms: in a box of the set " + set, set >> box & 1, () -> x.found(box, ANY));
            }
        }
    }

    private static void setsOfKeywordsAreSums() {
        MailFollower x = withMails(1);
        for (int s = 0; s < 16; s++) {
            int set = s;
            for (int k = 0; k < 4; k++) {
                int keyword = k;
                x.flag(0, keyword, (set >> keyword & 1) == 1);
                due("terms: has a keyword of the set " + set, set >> keyword & 1, () -> x.found(0, keyword));
            }
            due("terms: the keywords", set, () -> x.keywords(0));
        }
    }

    /** "The state is 0 at first, and grows by 1 with each change". */
    private static void theStateGrowsBy1() {
        MailFollower x = new MailFollower();
        due("terms: at first", 0, x::state);
        x.add(0, 1, 0);
        due("terms: a mail that comes", 1, x::state);
        x.move(0, 3);
        due("terms: is moved to other boxes", 2, x::state);
        x.flag(0, 0, true);
        due("terms: gets a keyword", 3, x::state);
        x.flag(0, 0, false);
        due("terms: loses a keyword", 4, x::state);
        x.flagIf(0, 3, true, 4);
        due("terms: gets a keyword at a state", 5, x::state);
        x.flagIf(0, 3, false, 5);
        due("terms: loses a keyword at a state", 6, x::state);
        x.sync(0);
        for (int i = 0; i < 10; i++) {
            x.flagOffline(0, 0, 1, i % 2 == 0);
        }
        x.sync(0);
        due("terms: gets and loses a keyword in a sync", 16, x::state);
        x.destroy(0);
        due("terms: is destroyed", 17, x::state);
    }

    /** "What would change nothing is no change." */
    private static void nothingIsNoChange() {
        MailFollower x = withMails(1);
        x.flag(0, 0, true);
        x.sync(0);
        flip(x, 0, 1, 38);
        x.move(0, 1);
        x.flag(0, 0, true);
        x.flag(0, 2, false);
        x.flagIf(0, 0, true, 40);
        x.flagIf(0, 2, false, 40);
        x.watch(0, 1, 1);
        x.watch(0, 0, 5);
        x.flagOffline(0, 0, 0, true);
        x.flagOffline(0, 0, 2, false);
        x.sync(0);
        x.sync(0);
        due("terms: the state stays", 40, x::state);
        due("terms: nothing is behind it", 0, () -> x.changed(40, 1));
        due("terms: a page has nothing", 40, () -> x.page(40, 1));
        due("terms: no known change is pushed out", true, () -> x.canTell(0));
        due("terms: a client is not left behind", 40, () -> x.stateOf(0));
    }

    /** "The server knows the latest 40 changes; it can tell [..] if all changes behind that state are among them." */
    private static void fortyChangesAreKnown() {
        MailFollower x = withMails(1);
        flip(x, 0, 0, 38);
        due("terms: 39 changes behind a state", true, () -> x.canTell(0));
        flip(x, 0, 0, 1);
        due("terms: 40 changes behind a state", true, () -> x.canTell(0));
        due("terms: the oldest of 40 is known", List.of(0), () -> changedMails(x, 0, 0));
        flip(x, 0, 0, 1);
        due("terms: 41 changes behind a state", false, () -> x.canTell(0));
        due("terms: the next state has 40", true, () -> x.canTell(1));
        flip(x, 0, 0, 59);
        due("terms: 100 changes, 60 of them too old", true, () -> x.canTell(60));
        due("terms: 100 changes, the 60th is needed", false, () -> x.canTell(59));
        due("terms: 100 changes behind a state", false, () -> x.canTell(0));
        due("terms: none behind a state", true, () -> x.canTell(100));
    }

    /** The same sentence: each kind of change is one of the 40. */
    private static void eachChangePushesOneOut() {
        pushesOneOut("add", x -> x.add(1, 1, 0));
        pushesOneOut("move", x -> x.move(0, 2));
        pushesOneOut("flag", x -> x.flag(0, 3, true));
        pushesOneOut("flagIf", x -> x.flagIf(0, 3, true, 40));
        pushesOneOut("destroy", x -> x.destroy(0));
        pushesOneOut("sync", x -> {
            x.flagOffline(0, 0, 3, true);
            x.sync(0);
        });
    }

    private static void pushesOneOut(String kind, Consumer<MailFollower> change) {
        MailFollower x = withMails(2);
        flip(x, 0, 0, 38);
        x.sync(0);
        due("terms: known ahead of " + kind, true, () -> x.canTell(0));
        change.accept(x);
        due("terms: pushed out by " + kind, false, () -> x.canTell(0));
        due("terms: the latest 40 with " + kind, true, () -> x.canTell(1));
    }

    private static void theLatestFortyAtEveryState() {
        MailFollower x = withMails(1);
        for (int s = 2; s < 122; s++) {
            int oldest = Math.max(0, s - 40);
            x.flag(0, 0, s % 2 == 0);
            due("terms: the latest 40 at the state " + s, true, () -> x.canTell(oldest));
            if (oldest > 0) {
                due("terms: the latest 41 at the state " + s, false, () -> x.canTell(oldest - 1));
            }
        }
    }

    /** "a mail was created if it is there and was not there then". */
    private static void created() {
        MailFollower x = withMails(1);
        due("terms: created behind the state", List.of(0), () -> changedMails(x, 0, 0));
        due("terms: created by the change that led to the state", List.of(), () -> changedMails(x, 1, 0));
        x.move(0, 2);
        x.flag(0, 1, true);
        due("terms: created and then changed", List.of(0), () -> changedMails(x, 0, 0));
        due("terms: it is not updated too", List.of(), () -> changedMails(x, 0, 1));
        flip(x, 0, 0, 37);
        due("terms: created by the oldest of 40", List.of(0), () -> changedMails(x, 0, 0));
        x.add(2, 1, 0);
        due("terms: created by the latest", List.of(1), () -> changedMails(x, 40, 0));
        due("terms: only since then", List.of(1), () -> changedMails(x, 1, 0));
    }

    /** "destroyed if it was there then and is not there now". */
    private static void destroyed() {
        MailFollower x = withMails(2);
        x.destroy(1);
        due("terms: destroyed behind the state", List.of(1), () -> changedMails(x, 2, 2));
        due("terms: destroyed by the change that led to the state", List.of(), () -> changedMails(x, 3, 2));
        due("terms: it came at the state", List.of(1), () -> changedMails(x, 2, 2));
        due("terms: it came behind the state", List.of(), () -> changedMails(x, 1, 2));
        flip(x, 0, 0, 39);
        due("terms: destroyed by the oldest of 40", List.of(1), () -> changedMails(x, 2, 2));
        x.flag(0, 2, true);
        x.destroy(0);
        due("terms: changed and then destroyed", List.of(0), () -> changedMails(x, 42, 2));
        due("terms: it is not updated too", List.of(), () -> changedMails(x, 42, 1));
    }

    /** "updated if it was there then, is there now, and was changed in between, even if it is as it was". */
    private static void updated() {
        MailFollower x = withMails(3);
        x.flag(0, 3, true);
        due("terms: updated behind the state", List.of(0), () -> changedMails(x, 3, 1));
        due("terms: updated by the change that led to the state", List.of(), () -> changedMails(x, 4, 1));
        due("terms: not created", List.of(), () -> changedMails(x, 3, 0));
        x.flag(0, 3, false);
        due("terms: its keywords are as they were", List.of(0), () -> changedMails(x, 3, 1));
        x.move(2, 2);
        x.move(2, 1);
        due("terms: its boxes are as they were", List.of(0, 2), () -> changedMails(x, 3, 1));
        due("terms: there since the state", List.of(2), () -> changedMails(x, 6, 1));
        flip(x, 2, 0, 36);
        due("terms: updated by the oldest of 40", List.of(0, 2), () -> changedMails(x, 3, 1));
        due("terms: no longer behind the state", List.of(2), () -> changedMails(x, 5, 1));
    }

    /** "A mail that came and was destroyed in between is none of these." */
    private static void cameAndDestroyed() {
        MailFollower x = withMails(1);
        x.add(5, 1, 0);
        x.flag(1, 0, true);
        x.destroy(1);
        for (int w = 0; w < 3; w++) {
            int way = w;
            due("terms: in between", List.of(), () -> changedMails(x, 1, way));
            due("terms: the 40 changes behind it", 0, () -> x.changed(4, way));
        }
        due("terms: it was there at the state", List.of(1), () -> changedMails(x, 2, 2));
        due("terms: not in between for a result", 0, () -> x.removed(1, 0, ANY));
        due("terms: it takes a place all the same", 4, () -> x.page(1, 1));
        x.add(5, 1, 0);
        due("terms: the first place", 4, () -> x.page(1, 1));
        due("terms: the second place", 5, () -> x.page(1, 2));
        due("terms: the next mail is another one", List.of(2), () -> changedMails(x, 1, 0));
    }

    /** The latest 40 of more than 80 changes, each of another mail, so that a change told for another is seen. */
    private static void changesThatGoRoundThePlaces() {
        MailFollower x = withMails(45);
        for (int i = 0; i < 45; i++) {
            x.flag(i, 1, true);
            if (i >= 38 && i <= 40) {
                int oldest = x.state() - 40;
                List<Integer> flagged = numbers(Math.max(0, oldest - 45), i);
                List<Integer> come = oldest < 45 ? numbers(oldest, 44) : List.of();
                due("terms: updated of 40", flagged, () -> changedMails(x, oldest, 1));
                due("terms: created of 40", come, () -> changedMails(x, oldest, 0));
            }
        }
        due("terms: 40 of 45 are updated", numbers(5, 44), () -> changedMails(x, 50, 1));
        due("terms: they had no keyword", 40, () -> x.added(50, 0, 1));
        due("terms: a page of them", 57, () -> x.page(50, 7));
    }

    /** "by falling times, those of the same time by falling numbers". */
    private static void fallingTimesAndNumbers() {
        MailFollower same = new MailFollower();
        MailFollower falling = new MailFollower();
        for (int i = 0; i < 60; i++) {
            same.add(7, 1, 0);
            falling.add(59 - i, 1, 0);
        }
        due("terms: 60 of the same time", numbers(59, 0), () -> result(same, 0, ANY));
        due("terms: 60 of falling times", numbers(0, 59), () -> result(falling, 0, ANY));
        due("terms: 60 of rising times", numbers(59, 0), () -> result(withMails(60), 0, ANY));
        MailFollower x = new MailFollower();
        for (int time : new int[] {5, 9, 5, 1, 9, 5, 1}) {
            x.add(time, 1, 0);
        }
        due("terms: between others", List.of(4, 1, 5, 2, 0, 6, 3), () -> result(x, 0, ANY));
        x.destroy(5);
        x.move(1, 2);
        x.flag(0, 2, true);
        x.flag(6, 2, true);
        x.flag(4, 2, true);
        due("terms: without those that are gone", List.of(4, 2, 0, 6, 3), () -> result(x, 0, ANY));
        due("terms: with a keyword", List.of(4, 0, 6), () -> result(x, 0, 2));
        x.move(1, 3);
        due("terms: back at its place", List.of(4, 1, 2, 0, 6, 3), () -> result(x, 0, ANY));
    }

    /** "its result is all mails that are there, lie in the box and have the keyword, if one is told". */
    private static void emptyResults() {
        MailFollower x = new MailFollower();
        due("terms: an empty server", List.of(), () -> result(x, 0, ANY));
        x.add(1, 2, 0);
        due("terms: no mail in the box", List.of(), () -> result(x, 0, ANY));
        due("terms: no mail with the keyword", List.of(), () -> result(x, 1, 0));
        x.flag(0, 0, true);
        due("terms: the keyword in another box", List.of(), () -> result(x, 0, 0));
        due("terms: another keyword in the box", List.of(), () -> result(x, 1, 1));
        due("terms: box and keyword", List.of(0), () -> result(x, 1, 0));
        x.destroy(0);
        due("terms: no mail that is there", List.of(), () -> result(x, 1, 0));
        due("terms: no such place", OUT, () -> x.foundAt(1, 0, 0));
    }

    /** "Clients are 0 and 1." */
    private static void clients0And1() {
        MailFollower x = withMails(2);
        x.sync(0);
        due("terms: client 0", 2, () -> x.window(0));
        due("terms: client 1 is another one", 0, () -> x.window(1));
        x.sync(1);
        x.flagOffline(1, 0, 1, true);
        due("terms: client 1 knows", List.of(0, 2), () -> knownKeywords(x, 1));
        due("terms: client 0 does not", List.of(0, 0), () -> knownKeywords(x, 0));
        due("terms: client -1", ARGUMENT, () -> x.window(-1));
        due("terms: client 2", ARGUMENT, () -> x.window(2));
    }

    /** "A client watches a box with a width from 1 to 10". */
    private static void aBoxWithAWidth() {
        for (int b = 0; b < 6; b++) {
            int box = b;
            MailFollower x = new MailFollower();
            for (int i = 0; i < 24; i++) {
                x.add(i, i % 2 == 0 ? 1 << box : 63 - (1 << box), 0);
            }
            for (int w = 1; w <= 10; w++) {
                int width = w;
                x.watch(1, box, width);
                x.sync(1);
                due("terms: the box " + box + " with the width " + width, width, () -> x.window(1));
                due("terms: its last mail", 24 - 2 * width, () -> x.windowAt(1, width - 1));
            }
        }
        MailFollower x = new MailFollower();
        due("terms: the box -1", ARGUMENT, () -> watched(x, 1, -1, 5));
        due("terms: the box 6", ARGUMENT, () -> watched(x, 1, 6, 5));
        due("terms: a width of 0", ARGUMENT, () -> watched(x, 1, 0, 0));
        due("terms: a width of 11", ARGUMENT, () -> watched(x, 1, 0, 11));
    }

    /** "its window is the first mails, as many as the width, or all if there are fewer". */
    private static void asManyAsTheWidth() {
        for (int w = 1; w <= 10; w++) {
            int width = w;
            MailFollower x = new MailFollower();
            x.watch(1, 0, width);
            x.sync(1);
            due("terms: none for the width " + width, List.of(), () -> windowMails(x, 1));
            for (int n = 1; n <= width + 1; n++) {
                x.add(n, 1, 0);
                x.sync(1);
                List<Integer> first = numbers(n - 1, Math.max(0, n - width));
                due("terms: of " + n + " for the width " + width, first, () -> windowMails(x, 1));
            }
        }
    }

    /** "of the result of the query for this box without a keyword". */
    private static void theWindowHasNoKeyword() {
        MailFollower x = withMails(3);
        x.flag(1, 0, true);
        x.add(9, 62, 0);
        x.sync(0);
        due("terms: with and without keywords", List.of(2, 1, 0), () -> windowMails(x, 0));
        due("terms: their keywords", List.of(0, 1, 0), () -> knownKeywords(x, 0));
    }

    /** "It keeps the state of its latest sync, its window as it was then, and the keywords [..] as it knows them." */
    private static void keepsTheLatestSync() {
        MailFollower x = withMails(3);
        x.flag(1, 3, true);
        x.sync(0);
        x.destroy(2);
        x.move(1, 2);
        x.flag(1, 3, false);
        x.flag(0, 0, true);
        x.add(9, 1, 0);
        x.sync(1);
        due("terms: the state then", 4, () -> x.stateOf(0));
        due("terms: the window then", List.of(2, 1, 0), () -> windowMails(x, 0));
        due("terms: the keywords then", List.of(0, 8, 0), () -> knownKeywords(x, 0));
        x.flagOffline(0, 2, 1, true);
        x.flagOffline(0, 1, 3, false);
        due("terms: the keywords as it knows them", List.of(2, 0, 0), () -> knownKeywords(x, 0));
        due("terms: the state stays", 4, () -> x.stateOf(0));
        due("terms: the server does not know them", 1, () -> x.keywords(0));
    }

    /** "It has a list of at most 10 flags that were set offline". */
    private static void tenFlags() {
        MailFollower x = withMails(2);
        x.sync(0);
        x.sync(1);
        for (int i = 1; i <= 10; i++) {
            int flags = i;
            due("terms: flags of client 0", flags, () -> x.flagOffline(0, flags % 2, flags % 4, true));
        }
        due("terms: an eleventh", STATE, () -> x.flagOffline(0, 0, 0, true));
        due("terms: the list of client 1", 1, () -> x.flagOffline(1, 0, 0, true));
        x.sync(1);
        due("terms: an eleventh, behind another's sync", STATE, () -> x.flagOffline(0, 0, 0, true));
        x.sync(0);
        for (int i = 1; i <= 10; i++) {
            int flags = i;
            due("terms: again", flags, () -> x.flagOffline(0, 0, 0, true));
        }
        due("terms: an eleventh again", STATE, () -> x.flagOffline(0, 0, 0, true));
    }

    /** The same sentence: "each a mail, a keyword, and whether it is set". */
    private static void eachAMailAKeywordAndWhetherItIsSet() {
        MailFollower x = withMails(5);
        for (int m = 0; m < 5; m++) {
            x.flag(m, m % 4, true);
        }
        x.sync(0);
        x.flagOffline(0, 0, 0, false);
        x.flagOffline(0, 1, 0, true);
        x.flagOffline(0, 2, 3, true);
        x.flagOffline(0, 3, 3, false);
        x.flagOffline(0, 4, 1, true);
        due("terms: the mails have what they had", List.of(1, 2, 4, 8, 1), () -> keywordsOf(x, 5));
        x.sync(0);
        due("terms: each flag on its mail", List.of(0, 3, 12, 0, 3), () -> keywordsOf(x, 5));
    }

    private static List<Integer> keywordsOf(MailFollower x, int mails) {
        return numbers(0, mails - 1).stream().map(x::keywords).toList();
    }
}
