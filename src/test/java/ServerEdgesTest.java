import java.util.List;

/** Promises 1 to 11: an empty server, and the least and the greatest that is allowed; RefusalsTest has what is not. */
public final class ServerEdgesTest extends Checks {
    public static void main(String[] args) {
        aServerWithoutMails();
        nothingChangedOnIt();
        twoClientsWithEmptyWindows();
        theyWatchBox0WithTheWidth5();
        objectsAreNotShared();
        addsTheLeastAndTheGreatest();
        addsWithoutKeywords();
        addsSixty();
        moves();
        flags();
        flagsIf();
        destroys();
        destroysAll();
        countsMails();
        tellsKeywords();
        countsThreads();
        shares();
        sharesOfSixty();
        end();
    }

    /** Promise 1: "Creates a server without mails". */
    private static void aServerWithoutMails() {
        MailFollower x = new MailFollower();
        due("p1 state", 0, x::state);
        due("p1 mails", 0, x::mails);
        due("p1 keywords", OUT, () -> x.keywords(0));
        due("p1 move", OUT, () -> x.move(0, 1));
        due("p1 flag", OUT, () -> x.flag(0, 0, true));
        due("p1 flagIf", OUT, () -> x.flagIf(0, 0, true, 0));
        due("p1 destroy", OUT, () -> x.destroy(0));
        for (int t = 0; t < 10; t++) {
            int thread = t;
            due("p1 inThread", 0, () -> x.inThread(thread));
        }
        for (int b = 0; b < 6; b++) {
            int box = b;
            for (int k = 0; k < 4; k++) {
                int keyword = k;
                due("p1 share", 0f, () -> x.share(box, keyword));
                due("p1 found", 0, () -> x.found(box, keyword));
            }
            due("p1 found in the box", 0, () -> x.found(box, ANY));
            due("p1 foundAt", OUT, () -> x.foundAt(box, ANY, 0));
        }
    }

    private static void nothingChangedOnIt() {
        MailFollower x = new MailFollower();
        due("p1 canTell", true, () -> x.canTell(0));
        for (int w = 0; w < 3; w++) {
            int way = w;
            due("p1 changed", 0, () -> x.changed(0, way));
            due("p1 changedAt", OUT, () -> x.changedAt(0, way, 0));
        }
        due("p1 page", 0, () -> x.page(0, 1));
        due("p1 a large page", 0, () -> x.page(0, 20));
        due("p1 removed", 0, () -> x.removed(0, 0, ANY));
        due("p1 added", 0, () -> x.added(0, 5, 3));
    }

    /** "and two clients [..] with the state 0, and with empty windows". */
    private static void twoClientsWithEmptyWindows() {
        MailFollower x = withMails(3);
        for (int c = 0; c < 2; c++) {
            int client = c;
            due("p1 stateOf", 0, () -> x.stateOf(client));
            due("p1 window", 0, () -> x.window(client));
            due("p1 windowAt", OUT, () -> x.windowAt(client, 0));
            due("p1 known", OUT, () -> x.known(client, 0));
            due("p1 freshLoads", 0, () -> x.freshLoads(client));
            due("p1 flagOffline", ARGUMENT, () -> x.flagOffline(client, 0, 0, true));
        }
        x.sync(0);
        x.sync(1);
        due("p1 empty lists", 3, x::state);
    }

    /** "that watch the box 0 with the width 5". */
    private static void theyWatchBox0WithTheWidth5() {
        for (int c = 0; c < 2; c++) {
            int client = c;
            MailFollower x = new MailFollower();
            x.add(9999, 62, 0);
            x.sync(client);
            due("p1 nothing of the other boxes", List.of(), () -> windowMails(x, client));
            for (int n = 1; n <= 6; n++) {
                x.add(n, 1, 0);
                x.sync(client);
                List<Integer> first = numbers(n, Math.max(1, n - 4));
                due("p1 at most 5 of the box 0", first, () -> windowMails(x, client));
            }
        }
    }

    private static void objectsAreNotShared() {
        MailFollower x = withMails(2);
        x.watch(0, 3, 1);
        x.sync(0);
        MailFollower other = new MailFollower();
        due("p1 another object's state", 0, other::state);
        due("p1 its mails", 0, other::mails);
        due("p1 its first number", 0, () -> other.add(0, 1, 0));
        other.sync(0);
        due("p1 its client", 1, () -> other.window(0));
        due("p1 this one's client", 0, () -> x.window(0));
    }

    /** Promise 2: "0 to 9999", "1 to 63", "0 to 9". */
    private static void addsTheLeastAndTheGreatest() {
        MailFollower x = new MailFollower();
        due("p2 all least", 0, () -> x.add(0, 1, 0));
        due("p2 all greatest", 1, () -> x.add(9999, 63, 9));
        due("p2 the least time", 2, () -> x.add(0, 63, 9));
        due("p2 the least boxes", 3, () -> x.add(9999, 1, 9));
        due("p2 the least thread", 4, () -> x.add(9999, 63, 0));
        due("p2 by times and numbers", List.of(4, 3, 1, 2, 0), () -> result(x, 0, ANY));
        due("p2 all boxes", List.of(4, 1, 2), () -> result(x, 5, ANY));
        due("p2 thread 0", 2, () -> x.inThread(0));
        due("p2 thread 9", 3, () -> x.inThread(9));
        due("p2 five changes", 5, x::state);
    }

    /** "Lets a mail come, without keywords." */
    private static void addsWithoutKeywords() {
        MailFollower x = withMails(1);
        for (int k = 0; k < 4; k++) {
            x.flag(0, k, true);
        }
        x.destroy(0);
        due("p2 behind one with all keywords", 1, () -> x.add(0, 1, 0));
        due("p2 no keywords", 0, () -> x.keywords(1));
        for (int k = 0; k < 4; k++) {
            int keyword = k;
            due("p2 found by none", 0, () -> x.found(0, keyword));
        }
    }

    /** "if 60 have come". */
    private static void addsSixty() {
        MailFollower x = withMails(59);
        due("p2 the 60th", 59, () -> x.add(9999, 63, 9));
        due("p2 the 61st", STATE, () -> x.add(9999, 63, 9));
        due("p2 60 changes", 60, x::state);
        due("p2 60 mails", 60, x::mails);
        due("p2 60 in the box", numbers(59, 0), () -> result(x, 0, ANY));
    }

    /** Promise 3: "1 to 63", "Returns the set before". */
    private static void moves() {
        MailFollower x = withMails(60);
        due("p3 the first mail to all boxes", 1, () -> x.move(0, 63));
        due("p3 the last mail to the last box", 1, () -> x.move(59, 32));
        due("p3 all to one", 63, () -> x.move(0, 1));
        due("p3 the last to the first box", 32, () -> x.move(59, 1));
        due("p3 to the same", 1, () -> x.move(59, 1));
        due("p3 four changes", 64, x::state);
        due("p3 times and numbers stay", numbers(59, 0), () -> result(x, 0, ANY));
        x.flag(0, 3, true);
        x.move(0, 2);
        due("p3 keywords stay", 8, () -> x.keywords(0));
    }

    /** Promise 4: "0 to 3", "Returns whether that is a change". */
    private static void flags() {
        MailFollower x = withMails(60);
        for (int mail : new int[] {0, 59}) {
            for (int keyword : new int[] {0, 3}) {
                due("p4 has it not, taken away", false, () -> x.flag(mail, keyword, false));
                due("p4 has it not, given", true, () -> x.flag(mail, keyword, true));
                due("p4 has it, given", false, () -> x.flag(mail, keyword, true));
                due("p4 has it", 1 << keyword, () -> x.keywords(mail));
                due("p4 has it, taken away", true, () -> x.flag(mail, keyword, false));
                due("p4 has none", 0, () -> x.keywords(mail));
            }
        }
        due("p4 eight changes", 68, x::state);
    }

    /** Promise 5: "if the state is as told". */
    private static void flagsIf() {
        MailFollower x = new MailFollower();
        for (int i = 0; i < 60; i++) {
            x.add(i, 1, 0);
            int mail = i;
            int state = 2 * i + 1;
            due("p5 the state behind", STATE, () -> x.flagIf(mail, 3, true, state + 1));
            due("p5 the state ahead", STATE, () -> x.flagIf(mail, 3, true, state - 1));
            due("p5 no change", false, () -> x.flagIf(mail, 3, false, state));
            due("p5 a change", true, () -> x.flagIf(mail, 3, true, state));
        }
        due("p5 the state", 120, x::state);
        due("p5 60 have it", 60, () -> x.found(0, 3));
        due("p5 the state 0 is another one", STATE, () -> x.flagIf(0, 0, true, 0));
        due("p5 a state too old to tell", STATE, () -> x.flagIf(0, 3, true, 79));
        due("p5 keyword 0", true, () -> x.flagIf(59, 0, true, 120));
        due("p5 both keywords", 9, () -> x.keywords(59));
        due("p5 taken away", true, () -> x.flagIf(59, 3, false, 121));
        due("p5 has it no more", false, () -> x.flagIf(59, 3, false, 122));
        due("p5 one is left", 1, () -> x.keywords(59));
    }

    /** Promise 6: "Returns the state then". */
    private static void destroys() {
        MailFollower x = withMails(1);
        due("p6 the only mail", 2, () -> x.destroy(0));
        due("p6 an empty server", 0, x::mails);
        due("p6 none to destroy", OUT, () -> x.destroy(0));
        due("p6 the state stays", 2, x::state);
        due("p6 the next one", 1, () -> x.add(0, 1, 0));
        due("p6 destroyed too", 4, () -> x.destroy(1));
    }

    private static void destroysAll() {
        MailFollower x = withMails(60);
        for (int i = 0; i < 60; i++) {
            int mail = 59 - i;
            due("p6 the state then", 61 + i, () -> x.destroy(mail));
        }
        due("p6 no mails", 0, x::mails);
        due("p6 none in the thread", 0, () -> x.inThread(0));
        due("p6 no share", 0f, () -> x.share(0, 0));
        due("p6 no result", 0, () -> x.found(0, ANY));
        due("p6 40 behind", numbers(0, 39), () -> changedMails(x, 80, 2));
        x.sync(0);
        due("p6 an empty window", 0, () -> x.window(0));
    }

    /** Promise 8: none, one, 60. */
    private static void countsMails() {
        MailFollower x = new MailFollower();
        for (int i = 0; i < 60; i++) {
            int mails = i;
            due("p8 mails", mails, x::mails);
            x.add(0, 1 << i % 6, i % 10);
        }
        due("p8 60 mails", 60, x::mails);
        x.destroy(59);
        x.destroy(0);
        due("p8 without the first and the last", 58, x::mails);
    }

    /** Promise 9: none and all keywords, the first and the last mail. */
    private static void tellsKeywords() {
        MailFollower x = withMails(60);
        for (int k = 0; k < 4; k++) {
            x.flag(0, k, true);
            x.flag(59, 3 - k, true);
            int keyword = k;
            due("p9 the lower ones", (2 << keyword) - 1, () -> x.keywords(0));
            due("p9 the upper ones", 16 - (8 >> keyword), () -> x.keywords(59));
        }
        due("p9 none", 0, () -> x.keywords(1));
        due("p9 none either", 0, () -> x.keywords(58));
    }

    /** Promise 10: "0 to 9", none and 60 mails. */
    private static void countsThreads() {
        for (int thread : new int[] {0, 9}) {
            MailFollower x = new MailFollower();
            for (int i = 0; i < 60; i++) {
                x.add(0, 63, thread);
            }
            due("p10 60 mails", 60, () -> x.inThread(thread));
            due("p10 no mails", 0, () -> x.inThread(9 - thread));
            x.destroy(59);
            due("p10 59 mails", 59, () -> x.inThread(thread));
        }
    }

    /** Promise 11: "as a float, divided by [..] as a float; 0 if there are none". */
    private static void shares() {
        MailFollower x = withMails(1);
        for (int keyword : new int[] {0, 3}) {
            due("p11 no mails in the box", 0f, () -> x.share(5, keyword));
            due("p11 none of one", 0f, () -> x.share(0, keyword));
            x.flag(0, keyword, true);
            due("p11 one of one", 1f, () -> x.share(0, keyword));
            x.move(0, 32);
            due("p11 one of one in the last box", 1f, () -> x.share(5, keyword));
            due("p11 no mails in the first box", 0f, () -> x.share(0, keyword));
            x.move(0, 1);
        }
        x.destroy(0);
        due("p11 none is left", 0f, () -> x.share(0, 0));
    }

    private static void sharesOfSixty() {
        MailFollower x = withMails(60);
        for (int i = 0; i < 60; i++) {
            float having = i;
            due("p11 of 60", having / 60f, () -> x.share(0, 3));
            x.flag(i, 3, true);
        }
        due("p11 60 of 60", 1f, () -> x.share(0, 3));
        for (int i = 0; i < 59; i++) {
            x.move(i, 2);
        }
        x.flag(59, 3, false);
        due("p11 none of one", 0f, () -> x.share(0, 3));
        due("p11 59 of 59", 1f, () -> x.share(1, 3));
    }
}
