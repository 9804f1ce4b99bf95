/** Promises 12 to 19: what changed, and queries. */
public final class ChangesTest extends Checks {
    public static void main(String[] args) {
        tellsForty();
        sortsChanges();
        passingMails();
        pages();
        pagesPassingMails();
        queries();
        queryChanges();
        refusesQueries();
        end();
    }

    private static void tellsForty() {
        MailFollower x = new MailFollower();
        due("p12 new", true, () -> x.canTell(0));
        due("p12 behind the present", ARGUMENT, () -> x.canTell(1));
        due("p12 negative", ARGUMENT, () -> x.canTell(-1));
        due("p12 least", ARGUMENT, () -> x.canTell(Integer.MIN_VALUE));
        x.add(1, 1, 0);
        flip(x, 0, 0, 39);
        due("p12 40 changes", true, () -> x.canTell(0));
        due("p13 40 changes", 1, () -> x.changed(0, 0));
        flip(x, 0, 0, 1);
        due("p12 41 changes", false, () -> x.canTell(0));
        due("p12 the latest 40", true, () -> x.canTell(1));
        due("p12 the present", true, () -> x.canTell(41));
        due("p13 cannot tell", STATE, () -> x.changed(0, 0));
        due("p14 cannot tell", STATE, () -> x.changedAt(0, 0, -1));
        due("p15 cannot tell", STATE, () -> x.page(0, 1));
        due("p18 cannot tell", STATE, () -> x.removed(0, 0, -1));
        due("p19 cannot tell", STATE, () -> x.added(0, 0, -1));
        due("p13 way ahead of telling", ARGUMENT, () -> x.changed(0, 3));
        due("p14 way ahead of telling", ARGUMENT, () -> x.changedAt(0, -1, 0));
        due("p15 places ahead of telling", ARGUMENT, () -> x.page(0, 0));
        due("p18 box ahead of telling", ARGUMENT, () -> x.removed(0, 6, -1));
        due("p19 keyword ahead of telling", ARGUMENT, () -> x.added(0, 0, 4));
        due("p13 updated", 1, () -> x.changed(1, 1));
    }

    private static void sortsChanges() {
        MailFollower x = new MailFollower();
        for (int i = 0; i < 5; i++) {
            x.add(i, 1, 0);
        }
        x.destroy(1);
        x.flag(3, 1, true);
        x.flag(3, 1, false);
        x.move(0, 2);
        x.add(9, 1, 0);
        x.destroy(4);
        x.flag(5, 0, true);
        due("p13 created", 1, () -> x.changed(5, 0));
        due("p13 updated, as it was too", 2, () -> x.changed(5, 1));
        due("p13 destroyed", 2, () -> x.changed(5, 2));
        due("p14 created, though updated", 5, () -> x.changedAt(5, 0, 0));
        due("p14 updated 0", 0, () -> x.changedAt(5, 1, 0));
        due("p14 updated 1", 3, () -> x.changedAt(5, 1, 1));
        due("p14 destroyed 0", 1, () -> x.changedAt(5, 2, 0));
        due("p14 destroyed 1", 4, () -> x.changedAt(5, 2, 1));
        due("p14 no such one", OUT, () -> x.changedAt(5, 2, 2));
        due("p14 negative", OUT, () -> x.changedAt(5, 2, -1));
        due("p14 far", OUT, () -> x.changedAt(5, 1, Integer.MAX_VALUE));
        for (int w = 0; w < 3; w++) {
            int way = w;
            due("p13 since the present", 0, () -> x.changed(12, way));
        }
        due("p13 a later way", 1, () -> x.changed(10, 1));
        due("p13 state", ARGUMENT, () -> x.changed(13, 0));
        due("p13 state -1", ARGUMENT, () -> x.changed(-1, 0));
        due("p13 way -1", ARGUMENT, () -> x.changed(5, -1));
        due("p14 state", ARGUMENT, () -> x.changedAt(13, 0, 0));
        due("p14 way", ARGUMENT, () -> x.changedAt(5, 3, 0));
        due("p14 way ahead of index", ARGUMENT, () -> x.changedAt(5, 3, -1));
    }

    private static void passingMails() {
        MailFollower x = new MailFollower();
        x.add(1, 1, 0);
        x.flag(0, 0, true);
        x.destroy(0);
        for (int w = 0; w < 3; w++) {
            int way = w;
            due("p13 came and was destroyed", 0, () -> x.changed(0, way));
        }
        due("p13 destroyed since it was there", 1, () -> x.changed(1, 2));
        due("p13 not updated", 0, () -> x.changed(1, 1));
        due("p14 nothing", OUT, () -> x.changedAt(0, 0, 0));
    }

    private static void pages() {
        MailFollower x = new MailFollower();
        due("p15 no changes", 0, () -> x.page(0, 1));
        for (int i = 0; i < 22; i++) {
            x.add(i, 1, 0);
        }
        due("p15 one place", 1, () -> x.page(0, 1));
        due("p15 20 places", 20, () -> x.page(0, 20));
        due("p15 all", 22, () -> x.page(2, 20));
        x.flag(0, 0, true);
        x.flag(1, 0, true);
        x.flag(0, 1, true);
        x.flag(0, 2, true);
        x.flag(2, 0, true);
        x.flag(0, 3, true);
        due("p15 one mail", 23, () -> x.page(22, 1));
        due("p15 two mails, one of them again", 26, () -> x.page(22, 2));
        due("p15 three mails", 28, () -> x.page(22, 3));
        due("p15 one mail twice", 26, () -> x.page(24, 1));
        due("p15 the present", 28, () -> x.page(28, 1));
        due("p15 state", ARGUMENT, () -> x.page(29, 1));
        due("p15 state -1", ARGUMENT, () -> x.page(-1, 1));
        due("p15 places 0", ARGUMENT, () -> x.page(22, 0));
        due("p15 places 21", ARGUMENT, () -> x.page(22, 21));
    }

    private static void pagesPassingMails() {
        MailFollower x = new MailFollower();
        x.add(1, 1, 0);
        x.destroy(0);
        x.add(1, 1, 0);
        due("p15 a mail that came and went takes a place", 2, () -> x.page(0, 1));
        due("p15 two places", 3, () -> x.page(0, 2));
    }

    private static void queries() {
        MailFollower x = new MailFollower();
        x.add(10, 1, 0);
        x.add(30, 3, 0);
        x.add(10, 33, 0);
        x.add(20, 1, 0);
        x.add(30, 1, 0);
        x.add(0, 32, 0);
        int[] first = {4, 1, 3, 2, 0};
        due("p16 box 0", 5, () -> x.found(0, -1));
        for (int i = 0; i < 5; i++) {
            int index = i;
            due("p17 falling times and numbers", first[index], () -> x.foundAt(0, -1, index));
        }
        due("p16 box 5", 2, () -> x.found(5, -1));
        due("p17 box 5", 5, () -> x.foundAt(5, -1, 1));
        due("p16 an empty box", 0, () -> x.found(2, -1));
        due("p17 an empty box", OUT, () -> x.foundAt(2, -1, 0));
        x.flag(0, 3, true);
        x.flag(4, 3, true);
        x.flag(5, 3, true);
        due("p16 keyword", 2, () -> x.found(0, 3));
        due("p16 another keyword", 0, () -> x.found(0, 2));
        due("p17 keyword", 0, () -> x.foundAt(0, 3, 1));
        x.destroy(4);
        due("p16 destroyed", 1, () -> x.found(0, 3));
        due("p17 destroyed", 1, () -> x.foundAt(0, -1, 0));
        due("p17 end", OUT, () -> x.foundAt(0, -1, 4));
        due("p17 negative", OUT, () -> x.foundAt(0, -1, -1));
        x.move(5, 1);
        due("p17 moved", 5, () -> x.foundAt(0, -1, 4));
        due("p16 moved away", 1, () -> x.found(5, -1));
    }

    private static void queryChanges() {
        MailFollower x = new MailFollower();
        x.add(1, 1, 0);
        x.add(2, 1, 0);
        x.add(3, 2, 0);
        x.flag(0, 1, true);
        x.flag(1, 1, true);
        x.flag(1, 1, false);
        x.move(2, 3);
        x.destroy(0);
        x.add(4, 1, 0);
        due("p18 box 0", 1, () -> x.removed(5, 0, -1));
        due("p19 box 0", 2, () -> x.added(5, 0, -1));
        due("p18 keyword 1", 2, () -> x.removed(5, 0, 1));
        due("p19 keyword 1", 0, () -> x.added(5, 0, 1));
        due("p18 only what was in the result", 1, () -> x.removed(4, 0, 1));
        due("p18 since 0", 0, () -> x.removed(0, 0, -1));
        due("p19 since 0", 3, () -> x.added(0, 0, -1));
        due("p19 still in the other box", 0, () -> x.added(5, 1, -1));
        due("p18 since the present", 0, () -> x.removed(9, 0, -1));
        due("p19 since the present", 0, () -> x.added(9, 0, -1));
        x.move(2, 1);
        x.move(2, 2);
        x.move(2, 3);
        due("p18 away and back", 0, () -> x.removed(9, 1, -1));
        due("p19 away and back", 0, () -> x.added(9, 1, -1));
    }

    private static void refusesQueries() {
        MailFollower x = new MailFollower();
        x.add(1, 63, 0);
        int[][] wrong = {{-1, 0}, {6, 0}, {0, -2}, {0, 4}, {Integer.MAX_VALUE, 0}, {0, Integer.MIN_VALUE}};
        for (int[] w : wrong) {
            due("p16 out of range", ARGUMENT, () -> x.found(w[0], w[1]));
            due("p17 out of range", ARGUMENT, () -> x.foundAt(w[0], w[1], 0));
            due("p17 range ahead of index", ARGUMENT, () -> x.foundAt(w[0], w[1], -1));
            due("p18 out of range", ARGUMENT, () -> x.removed(0, w[0], w[1]));
            due("p19 out of range", ARGUMENT, () -> x.added(0, w[0], w[1]));
        }
        due("p18 state", ARGUMENT, () -> x.removed(2, 0, 0));
        due("p18 state -1", ARGUMENT, () -> x.removed(-1, 0, 0));
        due("p19 state", ARGUMENT, () -> x.added(2, 0, 0));
        due("p19 state -1", ARGUMENT, () -> x.added(-1, 0, 0));
    }
}
