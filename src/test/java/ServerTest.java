/** Promises 1 to 11: a new object and the server. */
public final class ServerTest extends Checks {
    public static void main(String[] args) {
        newObject();
        addTells();
        addRefuses();
        moveMoves();
        flagFlags();
        flagIfAsks();
        destroyDestroys();
        countsMails();
        sharesFloats();
        end();
    }

    private static void newObject() {
        MailFollower x = new MailFollower();
        due("p1 state", 0, x::state);
        due("p1 mails", 0, x::mails);
        for (int c = 0; c < 2; c++) {
            int client = c;
            due("p1 stateOf", 0, () -> x.stateOf(client));
            due("p1 window", 0, () -> x.window(client));
            due("p1 freshLoads", 0, () -> x.freshLoads(client));
            due("p1 windowAt", OUT, () -> x.windowAt(client, 0));
        }
        for (int i = 0; i < 6; i++) {
            x.add(i, 1, 0);
        }
        x.add(9, 62, 0);
        x.sync(0);
        x.sync(1);
        due("p1 box 0 with the width 5, client 0", 5, () -> x.window(0));
        due("p1 box 0 with the width 5, client 1", 5, () -> x.window(1));
        due("p1 box 0, client 1", 5, () -> x.windowAt(1, 0));
    }

    private static void addTells() {
        MailFollower x = new MailFollower();
        due("p2 first number", 0, () -> x.add(0, 1, 0));
        due("p2 second number", 1, () -> x.add(9999, 63, 9));
        due("p2 two changes", 2, x::state);
        due("p2 without keywords", 0, () -> x.keywords(1));
        due("p2 the boxes", 63, () -> x.move(1, 1));
        x.destroy(1);
        due("p2 a number is not given again", 2, () -> x.add(5, 1, 0));
    }

    private static void addRefuses() {
        MailFollower x = new MailFollower();
        int[][] wrong = {{-1, 1, 0}, {10000, 1, 0}, {0, 0, 0}, {0, -1, 0}, {0, 64, 0}, {0, 1, -1}, {0, 1, 10},
            {Integer.MIN_VALUE, 1, 0}, {0, Integer.MAX_VALUE, 0}, {0, 1, Integer.MIN_VALUE}};
        for (int[] w : wrong) {
            due("p2 out of range", ARGUMENT, () -> x.add(w[0], w[1], w[2]));
        }
        due("p2 no change", 0, x::state);
        for (int i = 0; i < 60; i++) {
            int number = i;
            due("p2 number", number, () -> x.add(7, 1, 0));
        }
        due("p2 60 have come", STATE, () -> x.add(7, 1, 0));
        due("p2 range ahead of 60", ARGUMENT, () -> x.add(7, 0, 0));
        x.destroy(3);
        due("p2 destroyed ones have come too", STATE, () -> x.add(7, 1, 0));
        due("p2 states", 61, x::state);
    }

    private static void moveMoves() {
        MailFollower x = new MailFollower();
        x.add(1, 5, 0);
        due("p3 set before", 5, () -> x.move(0, 63));
        due("p3 set before again", 63, () -> x.move(0, 63));
        due("p3 the same boxes are no change", 2, x::state);
        due("p3 no set", ARGUMENT, () -> x.move(0, 0));
        due("p3 too great", ARGUMENT, () -> x.move(0, 64));
        due("p3 negative", ARGUMENT, () -> x.move(0, -1));
        due("p3 no such mail", OUT, () -> x.move(1, 1));
        due("p3 negative mail", OUT, () -> x.move(-1, 1));
        due("p3 the mail ahead of the boxes", OUT, () -> x.move(60, 0));
        x.destroy(0);
        due("p3 destroyed", OUT, () -> x.move(0, 1));
        due("p3 states", 3, x::state);
    }

    private static void flagFlags() {
        MailFollower x = new MailFollower();
        x.add(1, 1, 0);
        x.add(1, 1, 0);
        due("p4 not had", false, () -> x.flag(0, 3, false));
        due("p4 no change", 2, x::state);
        due("p4 set", true, () -> x.flag(0, 3, true));
        due("p4 set again", false, () -> x.flag(0, 3, true));
        due("p4 another", true, () -> x.flag(0, 0, true));
        due("p9 both", 9, () -> x.keywords(0));
        due("p9 the other mail", 0, () -> x.keywords(1));
        due("p4 taken away", true, () -> x.flag(0, 3, false));
        due("p9 one", 1, () -> x.keywords(0));
        due("p4 states", 5, x::state);
        due("p4 keyword -1", ARGUMENT, () -> x.flag(0, -1, true));
        due("p4 keyword 4", ARGUMENT, () -> x.flag(0, 4, true));
        due("p4 keyword 32", ARGUMENT, () -> x.flag(0, 32, true));
        due("p4 no such mail", OUT, () -> x.flag(2, 0, true));
        due("p4 the mail ahead of the keyword", OUT, () -> x.flag(-1, 4, true));
        x.destroy(0);
        due("p4 destroyed", OUT, () -> x.flag(0, 0, true));
        due("p9 destroyed", OUT, () -> x.keywords(0));
        due("p9 never came", OUT, () -> x.keywords(2));
        due("p9 negative", OUT, () -> x.keywords(-1));
        due("p9 far", OUT, () -> x.keywords(Integer.MAX_VALUE));
    }

    private static void flagIfAsks() {
        MailFollower x = new MailFollower();
        x.add(1, 1, 0);
        due("p5 state before", STATE, () -> x.flagIf(0, 1, true, 0));
        due("p5 state after", STATE, () -> x.flagIf(0, 1, true, 2));
        due("p5 nothing set", 0, () -> x.keywords(0));
        due("p5 the state", true, () -> x.flagIf(0, 1, true, 1));
        due("p5 set", 2, () -> x.keywords(0));
        due("p5 another state, though no change", STATE, () -> x.flagIf(0, 1, true, 1));
        due("p5 no change", false, () -> x.flagIf(0, 1, true, 2));
        due("p5 state", 2, x::state);
        due("p5 taken away", true, () -> x.flagIf(0, 1, false, 2));
        due("p5 keyword ahead of the state", ARGUMENT, () -> x.flagIf(0, 4, true, 9));
        due("p5 keyword -1", ARGUMENT, () -> x.flagIf(0, -1, true, 3));
        due("p5 mail ahead of the keyword", OUT, () -> x.flagIf(1, 4, true, 9));
        x.destroy(0);
        due("p5 destroyed", OUT, () -> x.flagIf(0, 1, true, 4));
    }

    private static void destroyDestroys() {
        MailFollower x = new MailFollower();
        x.add(1, 1, 0);
        x.add(1, 1, 0);
        due("p6 no such mail", OUT, () -> x.destroy(2));
        due("p6 negative", OUT, () -> x.destroy(-1));
        due("p6 far", OUT, () -> x.destroy(60));
        due("p6 the state then", 3, () -> x.destroy(0));
        due("p7 state", 3, x::state);
        due("p6 again", OUT, () -> x.destroy(0));
        due("p8 mails", 1, x::mails);
        due("p6 the other", 4, () -> x.destroy(1));
        due("p8 none", 0, x::mails);
    }

    private static void countsMails() {
        MailFollower x = new MailFollower();
        x.add(1, 1, 9);
        x.add(1, 2, 9);
        x.add(1, 32, 0);
        due("p7 state", 3, x::state);
        due("p8 all boxes", 3, x::mails);
        due("p10 thread 9", 2, () -> x.inThread(9));
        due("p10 thread 0", 1, () -> x.inThread(0));
        due("p10 an empty one", 0, () -> x.inThread(5));
        x.destroy(1);
        due("p10 a destroyed one", 1, () -> x.inThread(9));
        due("p10 -1", ARGUMENT, () -> x.inThread(-1));
        due("p10 10", ARGUMENT, () -> x.inThread(10));
        due("p7 questions change nothing", 4, x::state);
    }

    private static void sharesFloats() {
        MailFollower x = new MailFollower();
        due("p11 none", 0f, () -> x.share(0, 0));
        x.add(1, 3, 0);
        x.add(2, 1, 0);
        x.add(3, 1, 0);
        x.add(4, 32, 0);
        due("p11 none has it", 0f, () -> x.share(0, 2));
        x.flag(0, 2, true);
        due("p11 a third", 1f / 3f, () -> x.share(0, 2));
        due("p11 all", 1f, () -> x.share(1, 2));
        due("p11 another keyword", 0f, () -> x.share(0, 3));
        x.flag(3, 3, true);
        due("p11 the last box", 1f, () -> x.share(5, 3));
        x.destroy(0);
        due("p11 without the destroyed", 0f, () -> x.share(0, 2));
        due("p11 an empty box", 0f, () -> x.share(1, 2));
        due("p11 box -1", ARGUMENT, () -> x.share(-1, 0));
        due("p11 box 6", ARGUMENT, () -> x.share(6, 0));
        due("p11 keyword -1", ARGUMENT, () -> x.share(0, -1));
        due("p11 keyword 4", ARGUMENT, () -> x.share(0, 4));
    }
}
