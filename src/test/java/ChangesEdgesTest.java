import java.util.List;

/** Promises 12 to 19: the least and the greatest that is allowed; RefusalsTest has what is not. */
public final class ChangesEdgesTest extends Checks {
    public static void main(String[] args) {
        canTell();
        changedByThePresent();
        changedByForty();
        changedByOneOfEach();
        changedAtTheLowest();
        pagesOfNothing();
        pagesOfOneMail();
        pagesOfTwentyMails();
        pagesOfTwentyOneMails();
        pagesEndAheadOfTheFirst();
        pagesOfForty();
        pagesToThePresent();
        pagesOfMailsThatAreGone();
        found();
        foundAt();
        removedAndAddedByNothing();
        removedAndAddedByForty();
        removedInEachWay();
        addedInEachWay();
        neitherRemovedNorAdded();
        removedAndAddedToBox5();
        end();
    }

    /** Promise 12: "0 to the present state". */
    private static void canTell() {
        MailFollower x = new MailFollower();
        due("p12 0 is the present state", true, () -> x.canTell(0));
        due("p12 behind it", ARGUMENT, () -> x.canTell(1));
        x.add(0, 1, 0);
        due("p12 now the present state", true, () -> x.canTell(1));
        due("p12 now the least one", true, () -> x.canTell(0));
        due("p12 behind it now", ARGUMENT, () -> x.canTell(2));
        flip(x, 0, 0, 40);
        due("p12 the least one, 41 changes ahead", false, () -> x.canTell(0));
        due("p12 40 changes ahead", true, () -> x.canTell(1));
        due("p12 the present state of 41", true, () -> x.canTell(41));
        due("p12 below the least one", ARGUMENT, () -> x.canTell(-1));
    }

    /** Promise 13: nothing is behind the present state. */
    private static void changedByThePresent() {
        MailFollower x = withMails(1);
        x.flag(0, 0, true);
        x.add(1, 1, 0);
        x.destroy(1);
        for (int w = 0; w < 3; w++) {
            int way = w;
            due("p13 since the present state", 0, () -> x.changed(4, way));
            due("p14 since the present state", OUT, () -> x.changedAt(4, way, 0));
        }
    }

    /** "Counts the mails": 40 in each way, and 41 changes. */
    private static void changedByForty() {
        MailFollower x = withMails(41);
        due("p13 40 created", numbers(1, 40), () -> changedMails(x, 1, 0));
        due("p13 41 created", STATE, () -> x.changed(0, 0));
        for (int i = 0; i < 41; i++) {
            x.flag(i, 0, true);
        }
        due("p13 40 updated", numbers(1, 40), () -> changedMails(x, 42, 1));
        due("p13 41 updated", STATE, () -> x.changed(41, 1));
        for (int i = 40; i >= 0; i--) {
            x.destroy(i);
        }
        due("p13 40 destroyed", numbers(0, 39), () -> changedMails(x, 83, 2));
        due("p13 41 destroyed", STATE, () -> x.changed(82, 2));
        due("p14 41 destroyed", STATE, () -> x.changedAt(82, 2, 0));
    }

    private static void changedByOneOfEach() {
        MailFollower x = withMails(59);
        x.move(0, 2);
        x.destroy(58);
        x.add(0, 1, 0);
        due("p13 created: the last mail", List.of(59), () -> changedMails(x, 59, 0));
        due("p13 updated: the first mail", List.of(0), () -> changedMails(x, 59, 1));
        due("p13 destroyed: the last but one", List.of(58), () -> changedMails(x, 59, 2));
        due("p13 only the latest", List.of(59), () -> changedMails(x, 61, 0));
        due("p13 none updated then", List.of(), () -> changedMails(x, 60, 1));
        due("p13 none destroyed then", List.of(), () -> changedMails(x, 61, 2));
    }

    /** Promise 14: "0 for the one with the lowest number", whatever the order of the changes. */
    private static void changedAtTheLowest() {
        MailFollower x = withMails(20);
        for (int i = 19; i >= 0; i--) {
            x.flag((i * 7 + 3) % 20, 0, true);
        }
        due("p14 the first of 20", 0, () -> x.changedAt(20, 1, 0));
        due("p14 the last of 20", 19, () -> x.changedAt(20, 1, 19));
        due("p14 a 21st", OUT, () -> x.changedAt(20, 1, 20));
        due("p14 ahead of the first", OUT, () -> x.changedAt(20, 1, -1));
        due("p14 all by their numbers", numbers(0, 19), () -> changedMails(x, 20, 1));
        due("p14 one alone", 3, () -> x.changedAt(39, 1, 0));
        due("p14 no second one", OUT, () -> x.changedAt(39, 1, 1));
    }

    /** Promise 15: "the state itself if there are no changes behind it". */
    private static void pagesOfNothing() {
        MailFollower x = withMails(3);
        due("p15 no changes behind it, one place", 3, () -> x.page(3, 1));
        due("p15 no changes behind it, 20 places", 3, () -> x.page(3, 20));
        due("p15 one change behind it, one place", 3, () -> x.page(2, 1));
        due("p15 one change behind it, 20 places", 3, () -> x.page(2, 20));
        due("p15 two changes behind it, one place", 2, () -> x.page(1, 1));
    }

    /** "the changes of one mail take one place together". */
    private static void pagesOfOneMail() {
        MailFollower x = withMails(1);
        flip(x, 0, 0, 39);
        due("p15 40 changes of one mail", 40, () -> x.page(0, 1));
        x.add(1, 1, 0);
        due("p15 39 and another mail's", 40, () -> x.page(1, 1));
        due("p15 with a place for it", 41, () -> x.page(1, 2));
        x.flag(0, 1, true);
        due("p15 between two of one mail", 40, () -> x.page(2, 1));
        due("p15 both mails", 42, () -> x.page(2, 2));
    }

    /** "how many places the page has, 1 to 20". */
    private static void pagesOfTwentyMails() {
        MailFollower x = withMails(20);
        for (int p = 1; p <= 20; p++) {
            int places = p;
            due("p15 as many of 20 mails", places, () -> x.page(0, places));
        }
        x.flag(0, 0, true);
        x.flag(19, 0, true);
        due("p15 20 mails, two of them again", 22, () -> x.page(0, 20));
        due("p15 19 places", 19, () -> x.page(0, 19));
    }

    private static void pagesOfTwentyOneMails() {
        MailFollower x = withMails(21);
        due("p15 20 places for 21 mails", 20, () -> x.page(0, 20));
        due("p15 20 places for the last 20", 21, () -> x.page(1, 20));
        x.destroy(20);
        due("p15 the 21st is gone", 20, () -> x.page(0, 20));
        due("p15 from its coming", 22, () -> x.page(20, 1));
    }

    /** "The page ends ahead of the first change for which there is no place." */
    private static void pagesEndAheadOfTheFirst() {
        MailFollower x = withMails(3);
        x.flag(0, 0, true);
        x.flag(1, 0, true);
        x.flag(0, 1, true);
        x.flag(2, 0, true);
        x.flag(0, 2, true);
        x.flag(1, 1, true);
        due("p15 though a change of its mail follows", 4, () -> x.page(3, 1));
        due("p15 ahead of the third mail", 6, () -> x.page(3, 2));
        due("p15 all three", 9, () -> x.page(3, 3));
        due("p15 places to spare", 9, () -> x.page(3, 20));
    }

    /** Page by page: "Returns the state behind the last change on the page". */
    private static void pagesOfForty() {
        MailFollower x = withMails(41);
        due("p15 20 of 40 mails", 21, () -> x.page(1, 20));
        due("p15 the next 20", 41, () -> x.page(21, 20));
        due("p15 the first of 40", 2, () -> x.page(1, 1));
        due("p15 41 changes", STATE, () -> x.page(0, 20));
        for (int i = 0; i < 41; i++) {
            x.move(i, 2);
        }
        due("p15 20 of the next 40", 62, () -> x.page(42, 20));
        due("p15 the last of them", 82, () -> x.page(62, 20));
        due("p15 41 changes again", STATE, () -> x.page(41, 20));
    }

    private static void pagesToThePresent() {
        MailFollower x = withMails(10);
        flip(x, 3, 0, 5);
        for (int p = 1; p <= 3; p++) {
            int state = 0;
            int pages = 0;
            while (state < 15 && pages < 15) {
                state = x.page(state, p);
                pages++;
            }
            int counted = pages;
            due("p15 pages of " + p + " places", (11 + p - 1) / p, () -> counted);
        }
    }

    /** "The changes behind a state are put on the page": those of mails that are gone too. */
    private static void pagesOfMailsThatAreGone() {
        MailFollower x = new MailFollower();
        for (int i = 0; i < 20; i++) {
            x.add(0, 1, 0);
            x.destroy(i);
        }
        due("p15 one of 20 that came and went", 2, () -> x.page(0, 1));
        due("p15 19 of them", 38, () -> x.page(0, 19));
        due("p15 all of them", 40, () -> x.page(0, 20));
        due("p15 from one's end", 2, () -> x.page(1, 1));
        due("p15 from one's end and another", 4, () -> x.page(1, 2));
        due("p13 none created", 0, () -> x.changed(0, 0));
        due("p13 none destroyed", 0, () -> x.changed(0, 2));
    }

    /** Promise 16: "0 to 5", "0 to 3, or -1 for none". */
    private static void found() {
        MailFollower x = new MailFollower();
        for (int box : new int[] {0, 5}) {
            for (int keyword : new int[] {ANY, 0, 3}) {
                due("p16 an empty result", 0, () -> x.found(box, keyword));
            }
        }
        for (int i = 0; i < 60; i++) {
            x.add(0, 33, 0);
            x.flag(i, 3, true);
        }
        due("p16 60 in the first box", 60, () -> x.found(0, ANY));
        due("p16 60 in the last box", 60, () -> x.found(5, ANY));
        due("p16 60 with the last keyword", 60, () -> x.found(5, 3));
        due("p16 none with the first", 0, () -> x.found(0, 0));
        due("p16 none in the box between", 0, () -> x.found(1, ANY));
        x.flag(59, 0, true);
        due("p16 one with the first", 1, () -> x.found(5, 0));
    }

    /** Promise 17: "0 for the first one". */
    private static void foundAt() {
        MailFollower x = withMails(60);
        x.flag(0, 0, true);
        x.flag(59, 3, true);
        due("p17 the first of 60", 59, () -> x.foundAt(0, ANY, 0));
        due("p17 the last of 60", 0, () -> x.foundAt(0, ANY, 59));
        due("p17 a 61st", OUT, () -> x.foundAt(0, ANY, 60));
        due("p17 ahead of the first", OUT, () -> x.foundAt(0, ANY, -1));
        due("p17 the only one with the first keyword", 0, () -> x.foundAt(0, 0, 0));
        due("p17 the only one with the last keyword", 59, () -> x.foundAt(0, 3, 0));
        due("p17 a second one", OUT, () -> x.foundAt(0, 3, 1));
        due("p17 the first of an empty result", OUT, () -> x.foundAt(0, 1, 0));
        due("p17 the first of an empty box", OUT, () -> x.foundAt(5, ANY, 0));
        x.move(30, 32);
        due("p17 the only one in the last box", 30, () -> x.foundAt(5, ANY, 0));
        due("p17 59 are left", OUT, () -> x.foundAt(0, ANY, 59));
    }

    /** Promises 18 and 19: nothing is behind the present state. */
    private static void removedAndAddedByNothing() {
        MailFollower x = new MailFollower();
        due("p18 an empty server", 0, () -> x.removed(0, 0, ANY));
        due("p19 an empty server", 0, () -> x.added(0, 0, ANY));
        x.add(0, 3, 0);
        x.flag(0, 0, true);
        x.move(0, 1);
        due("p18 since the present state", 0, () -> x.removed(3, 1, ANY));
        due("p19 since the present state", 0, () -> x.added(3, 0, 0));
        due("p18 by the latest change", 1, () -> x.removed(2, 1, ANY));
        due("p19 by the latest but one", 1, () -> x.added(1, 0, 0));
        due("p19 not by the latest", 0, () -> x.added(2, 0, 0));
    }

    /** "if the server cannot tell what changed since the state": 40 changes and 41. */
    private static void removedAndAddedByForty() {
        MailFollower x = withMails(41);
        due("p19 40 that came", 40, () -> x.added(1, 0, ANY));
        due("p19 41 that came", STATE, () -> x.added(0, 0, ANY));
        due("p18 41 that came", STATE, () -> x.removed(0, 0, ANY));
        for (int i = 0; i < 41; i++) {
            x.flag(i, 3, true);
        }
        due("p19 40 that got the keyword", 40, () -> x.added(42, 0, 3));
        due("p19 41 that got it", STATE, () -> x.added(41, 0, 3));
        due("p18 none without it", 0, () -> x.removed(42, 0, 3));
        for (int i = 0; i < 41; i++) {
            x.destroy(i);
        }
        due("p18 40 that are gone", 40, () -> x.removed(83, 0, ANY));
        due("p18 40 with the keyword", 40, () -> x.removed(83, 0, 3));
        due("p18 41 that are gone", STATE, () -> x.removed(82, 0, ANY));
        due("p19 none came", 0, () -> x.added(83, 0, ANY));
    }

    /** Promise 18: "were in the result of a query at a state and are not in it now". */
    private static void removedInEachWay() {
        MailFollower x = withMails(4);
        x.flag(0, 0, true);
        x.flag(1, 0, true);
        x.flag(2, 0, true);
        x.flag(0, 0, false);
        due("p18 lost the keyword", 1, () -> x.removed(7, 0, 0));
        x.move(1, 32);
        due("p18 left the box", 2, () -> x.removed(7, 0, 0));
        x.destroy(2);
        due("p18 was destroyed", 3, () -> x.removed(7, 0, 0));
        due("p18 without a keyword", 2, () -> x.removed(7, 0, ANY));
        due("p18 as they were at another state", 1, () -> x.removed(5, 0, 0));
        due("p18 two were in the result then", 2, () -> x.removed(6, 0, 0));
        due("p18 none was in the result then", 0, () -> x.removed(4, 0, 0));
        due("p18 one since the last but one", 1, () -> x.removed(9, 0, 0));
        due("p19 none has come into it", 0, () -> x.added(7, 0, 0));
    }

    /** Promise 19: "are in the result of a query now and were not in it at a state". */
    private static void addedInEachWay() {
        MailFollower x = withMails(2);
        x.move(1, 32);
        x.flag(1, 0, true);
        x.flag(0, 0, true);
        due("p19 got the keyword", 1, () -> x.added(4, 0, 0));
        x.move(1, 33);
        due("p19 came into the box", 2, () -> x.added(4, 0, 0));
        x.add(1, 1, 0);
        due("p19 not with the keyword yet", 2, () -> x.added(4, 0, 0));
        x.flag(2, 0, true);
        due("p19 came and got it", 3, () -> x.added(4, 0, 0));
        due("p19 without a keyword", 2, () -> x.added(4, 0, ANY));
        due("p19 only the keyword since then", 1, () -> x.added(7, 0, 0));
        due("p19 nothing in the box since then", 0, () -> x.added(7, 0, ANY));
        due("p18 none has left it", 0, () -> x.removed(4, 0, 0));
        due("p18 none has left the other box", 0, () -> x.removed(4, 5, ANY));
    }

    private static void neitherRemovedNorAdded() {
        MailFollower x = withMails(2);
        x.move(0, 2);
        x.move(0, 1);
        x.flag(0, 1, true);
        x.flag(0, 1, false);
        x.add(1, 1, 0);
        x.flag(2, 1, true);
        x.destroy(2);
        x.move(1, 33);
        for (int keyword : new int[] {ANY, 1}) {
            due("p18 is as it was, or came and went", 0, () -> x.removed(2, 0, keyword));
            due("p19 is as it was, or came and went", 0, () -> x.added(2, 0, keyword));
        }
        due("p18 when it was away", 0, () -> x.removed(3, 0, ANY));
        due("p19 when it was away", 1, () -> x.added(3, 0, ANY));
        due("p18 when it had the keyword", 1, () -> x.removed(5, 0, 1));
        due("p18 when another had it", 1, () -> x.removed(8, 0, 1));
    }

    /** "0 to 5", "0 to 3, or -1 for none". */
    private static void removedAndAddedToBox5() {
        MailFollower x = new MailFollower();
        x.add(0, 33, 0);
        for (int k = 0; k < 4; k++) {
            x.flag(0, k, true);
        }
        for (int k = -1; k < 4; k++) {
            int keyword = k;
            due("p19 box 0", 1, () -> x.added(0, 0, keyword));
            due("p19 box 5", 1, () -> x.added(0, 5, keyword));
            due("p19 another box", 0, () -> x.added(0, 4, keyword));
            due("p19 was in it then", 0, () -> x.added(5, 5, keyword));
            due("p18 not removed", 0, () -> x.removed(0, 5, keyword));
        }
        x.destroy(0);
        for (int k = -1; k < 4; k++) {
            int keyword = k;
            due("p18 box 0", 1, () -> x.removed(5, 0, keyword));
            due("p18 box 5", 1, () -> x.removed(5, 5, keyword));
            due("p18 another box", 0, () -> x.removed(5, 1, keyword));
            due("p19 not added", 0, () -> x.added(5, 5, keyword));
        }
    }
}
