import java.util.ArrayList;
import java.util.List;
import java.util.function.Consumer;
import java.util.function.Function;

/**
 * "A method that throws an exception changes nothing. If several exceptions apply, the one that is documented first is
 * thrown." Each refused call is made on new objects in three scenes; what they answer then is compared with the
 * answers of an object on which it was not made.
 */
public final class RefusalsTest extends Checks {
    /** An object's past, and what holds behind it; a state or a mail of -1 tells that there is none. */
    private record Scene(String name, Consumer<MailFollower> past, int state, int untold, int mail,
            List<Integer> noMails, boolean allCame, int inWindow, boolean fullList) {
        MailFollower made() {
            MailFollower x = new MailFollower();
            past.accept(x);
            return x;
        }
    }

    private final Scene scene;
    private final List<String> unrefused = new ArrayList<>();

    private RefusalsTest(Scene scene) {
        this.scene = scene;
        for (Function<MailFollower, String> look : LOOKS) {
            unrefused.add(look.apply(scene.made()));
        }
    }

    public static void main(String[] args) {
        refuseIn(new Scene("a new object", x -> { }, 0, -1, -1, List.of(0, 59), false, -1, false));
        refuseIn(new Scene("a few mails", RefusalsTest::fewMails, 13, -1, 1, List.of(3, 4, 59), false, 2, false));
        refuseIn(new Scene("60 mails", RefusalsTest::sixtyMails, 103, 62, 59, List.of(7), true, 57, true));
        end();
    }

    private static void refuseIn(Scene scene) {
        RefusalsTest test = new RefusalsTest(scene);
        test.refusesMails();
        test.refusesMovesAndFlags();
        test.refusesCounts();
        test.refusesStates();
        test.refusesWaysAndPlaces();
        test.refusesUntold();
        test.refusesQueries();
        test.refusesQueryChanges();
        test.refusesWatches();
        test.refusesFlagsOffline();
        test.refusesClients();
    }

    // ---- the scenes

    private static void fewMails(MailFollower x) {
        x.add(10, 1, 0);
        x.add(20, 3, 1);
        x.add(20, 33, 9);
        x.add(0, 2, 5);
        x.flag(0, 0, true);
        x.flag(1, 3, true);
        x.sync(0);
        x.destroy(3);
        x.flag(2, 1, true);
        x.flagOffline(0, 1, 2, true);
        x.flagOffline(0, 0, 0, false);
        x.watch(0, 1, 2);
        x.sync(1);
        x.watch(1, 5, 9);
        x.flagOffline(1, 2, 1, false);
        x.move(2, 35);
        x.move(1, 2);
        x.flag(0, 0, false);
        x.flag(0, 0, true);
        x.flag(2, 0, true);
    }

    /** 41 changes behind the state of the client 0, whose list is full. */
    private static void sixtyMails(MailFollower x) {
        for (int i = 0; i < 60; i++) {
            x.add(i < 50 ? i : 50, i % 5 == 0 ? 3 : 1, i % 10);
        }
        x.destroy(7);
        x.flag(57, 1, true);
        x.sync(0);
        for (int i = 0; i < 10; i++) {
            x.flagOffline(0, 55 + i % 5, i % 4, i % 3 != 0);
        }
        for (int i = 0; i < 20; i++) {
            x.flag(40 + i, 2, true);
        }
        x.sync(1);
        x.watch(1, 1, 7);
        x.flagOffline(1, 58, 2, false);
        for (int i = 0; i < 21; i++) {
            x.flag(50 - i, i % 2, true);
        }
    }

    // ---- what an object answers, by ever new objects: one is used for at most 512 calls

    private static final List<Function<MailFollower, String>> LOOKS = List.of(RefusalsTest::lookAtMails,
            RefusalsTest::lookAtResults, RefusalsTest::lookAtChanges, RefusalsTest::lookAtPages,
            RefusalsTest::lookAtQueryChanges, RefusalsTest::lookAtClients, RefusalsTest::lookAtSyncs,
            RefusalsTest::lookAtMoves);

    private static String lookAtMails(MailFollower x) {
        List<Object> answers = new ArrayList<>(List.of(x.state(), x.mails()));
        for (int m = 0; m < 60; m++) {
            int mail = m;
            answers.add(answerOf(() -> x.keywords(mail)));
        }
        for (int thread = 0; thread < 10; thread++) {
            answers.add(x.inThread(thread));
        }
        for (int box = 0; box < 6; box++) {
            for (int keyword = 0; keyword < 4; keyword++) {
                answers.add(x.share(box, keyword));
                answers.add(x.found(box, keyword));
            }
        }
        for (int state = Math.max(0, x.state() - 42); state <= x.state(); state++) {
            answers.add(x.canTell(state));
        }
        return answers.toString();
    }

    private static String lookAtResults(MailFollower x) {
        List<Object> answers = new ArrayList<>();
        for (int box : new int[] {0, 1, 5}) {
            answers.add(result(x, box, ANY));
        }
        for (int keyword = 0; keyword < 4; keyword++) {
            answers.add(result(x, 1, keyword));
        }
        return answers.toString();
    }

    private static String lookAtChanges(MailFollower x) {
        List<Object> answers = new ArrayList<>();
        int present = x.state();
        for (int way = 0; way < 3; way++) {
            for (int state = Math.max(0, present - 40); state <= present; state++) {
                answers.add(x.changed(state, way));
            }
            answers.add(changedMails(x, Math.max(0, present - 40), way));
        }
        return answers.toString();
    }

    private static String lookAtPages(MailFollower x) {
        List<Object> answers = new ArrayList<>();
        int present = x.state();
        for (int state = Math.max(0, present - 40); state <= present; state++) {
            answers.add(x.page(state, 1));
            answers.add(x.page(state, 3));
            answers.add(x.page(state, 20));
        }
        return answers.toString();
    }

    private static String lookAtQueryChanges(MailFollower x) {
        List<Object> answers = new ArrayList<>();
        int present = x.state();
        for (int state = Math.max(0, present - 40); state <= present; state++) {
            for (int keyword = -1; keyword < 2; keyword++) {
                answers.add(x.removed(state, 0, keyword));
                answers.add(x.added(state, 0, keyword));
            }
        }
        return answers.toString();
    }

    private static List<Object> clientsOf(MailFollower x) {
        List<Object> answers = new ArrayList<>();
        for (int client = 0; client < 2; client++) {
            answers.add(List.of(x.stateOf(client), x.freshLoads(client), windowMails(x, client),
                    knownKeywords(x, client)));
        }
        return answers;
    }

    /** Also the next flags offline, which tell how long the lists are. */
    private static String lookAtClients(MailFollower x) {
        List<Object> answers = clientsOf(x);
        for (int client = 0; client < 2; client++) {
            for (int mail : windowMails(x, client)) {
                int owner = client;
                answers.add(answerOf(() -> x.flagOffline(owner, mail, 3, true)));
            }
        }
        answers.addAll(clientsOf(x));
        return answers.toString();
    }

    /** The syncs tell what stands in the lists, and what is watched. */
    private static String lookAtSyncs(MailFollower x) {
        List<Object> answers = new ArrayList<>(List.of(x.sync(1)));
        answers.addAll(clientsOf(x));
        answers.add(x.sync(0));
        answers.addAll(clientsOf(x));
        answers.add(lookAtMails(x));
        return answers.toString();
    }

    /** The moves tell in which boxes the mails lie; the next mail tells its number. */
    private static String lookAtMoves(MailFollower x) {
        List<Object> answers = new ArrayList<>();
        answers.add(answerOf(() -> x.add(30, 63, 4)));
        for (int m = 0; m < 60; m++) {
            int mail = m;
            answers.add(answerOf(() -> x.move(mail, 32)));
        }
        answers.add(x.state());
        answers.add(result(x, 5, ANY));
        return answers.toString();
    }

    private interface Refused {
        Object on(MailFollower x);
    }

    private void refused(String call, Class<?> want, Refused refused) {
        for (int i = 0; i < unrefused.size(); i++) {
            MailFollower x = scene.made();
            due(call + " in " + scene.name, want, () -> refused.on(x));
            Function<MailFollower, String> look = LOOKS.get(i);
            due(call + " in " + scene.name + " changes nothing", unrefused.get(i), () -> look.apply(x));
        }
    }

    // ---- the refused calls

    /** The numbers just below and above what is allowed, and those farthest away. */
    private static int[] outside(int least, int most) {
        return new int[] {Integer.MIN_VALUE, least - 1, most + 1, Integer.MAX_VALUE};
    }

    /** No mails ever, and some that are gone or are still to come. */
    private List<Integer> noMails() {
        List<Integer> mails = new ArrayList<>(scene.noMails);
        for (int mail : outside(0, 59)) {
            mails.add(mail);
        }
        return mails;
    }

    private void refusesMails() {
        for (int time : outside(0, 9999)) {
            refused("p2 add time " + time, ARGUMENT, x -> x.add(time, 1, 0));
        }
        for (int boxes : outside(1, 63)) {
            refused("p2 add boxes " + boxes, ARGUMENT, x -> x.add(9999, boxes, 9));
        }
        for (int thread : outside(0, 9)) {
            refused("p2 add thread " + thread, ARGUMENT, x -> x.add(0, 63, thread));
        }
        refused("p2 add, all three out of range", ARGUMENT, x -> x.add(-1, 0, 10));
        if (scene.allCame) {
            refused("p2 add, 60 have come", STATE, x -> x.add(0, 1, 0));
            refused("p2 add, 60 have come, the greatest", STATE, x -> x.add(9999, 63, 9));
        }
    }

    private void refusesMovesAndFlags() {
        for (int mail : noMails()) {
            String told = " mail " + mail;
            refused("p3 move" + told, OUT, x -> x.move(mail, 1));
            refused("p3 move ahead of the boxes," + told, OUT, x -> x.move(mail, 0));
            refused("p4 flag" + told, OUT, x -> x.flag(mail, 0, true));
            refused("p4 flag ahead of the keyword," + told, OUT, x -> x.flag(mail, 4, true));
            refused("p5 flagIf" + told, OUT, x -> x.flagIf(mail, 0, true, scene.state));
            refused("p5 flagIf ahead of the keyword," + told, OUT, x -> x.flagIf(mail, -1, true, scene.state));
            refused("p5 flagIf ahead of the state," + told, OUT, x -> x.flagIf(mail, 0, true, scene.state + 1));
            refused("p5 flagIf ahead of both," + told, OUT, x -> x.flagIf(mail, 4, true, -1));
            refused("p6 destroy" + told, OUT, x -> x.destroy(mail));
            refused("p9 keywords" + told, OUT, x -> x.keywords(mail));
        }
        if (scene.mail >= 0) {
            refusesMovesAndFlagsOf(scene.mail);
        }
    }

    private void refusesMovesAndFlagsOf(int mail) {
        for (int boxes : outside(1, 63)) {
            refused("p3 move boxes " + boxes, ARGUMENT, x -> x.move(mail, boxes));
        }
        for (int keyword : outside(0, 3)) {
            String told = " keyword " + keyword;
            refused("p4 flag" + told, ARGUMENT, x -> x.flag(mail, keyword, true));
            refused("p4 flag taking away" + told, ARGUMENT, x -> x.flag(mail, keyword, false));
            refused("p5 flagIf" + told, ARGUMENT, x -> x.flagIf(mail, keyword, true, scene.state));
            refused("p5 flagIf ahead of the state," + told, ARGUMENT, x -> x.flagIf(mail, keyword, true, 0));
        }
        for (int state : new int[] {Integer.MIN_VALUE, -1, 0, scene.state - 1, scene.state + 1, Integer.MAX_VALUE}) {
            for (int k = 0; k < 4; k++) {
                int keyword = k;
                refused("p5 flagIf state " + state, STATE, x -> x.flagIf(mail, keyword, true, state));
                refused("p5 flagIf taking away, state " + state, STATE, x -> x.flagIf(mail, keyword, false, state));
            }
        }
    }

    private void refusesCounts() {
        for (int thread : outside(0, 9)) {
            refused("p10 inThread " + thread, ARGUMENT, x -> x.inThread(thread));
        }
        for (int box : outside(0, 5)) {
            refused("p11 share box " + box, ARGUMENT, x -> x.share(box, 0));
            refused("p11 share box and keyword " + box, ARGUMENT, x -> x.share(box, -1));
        }
        for (int keyword : outside(0, 3)) {
            refused("p11 share keyword " + keyword, ARGUMENT, x -> x.share(5, keyword));
        }
    }

    private void refusesStates() {
        for (int state : outside(0, scene.state)) {
            String told = " state " + state;
            refused("p12 canTell" + told, ARGUMENT, x -> x.canTell(state));
            refused("p13 changed" + told, ARGUMENT, x -> x.changed(state, 1));
            refused("p13 changed, way too," + told, ARGUMENT, x -> x.changed(state, 3));
            refused("p14 changedAt" + told, ARGUMENT, x -> x.changedAt(state, 1, 0));
            refused("p14 changedAt ahead of the index," + told, ARGUMENT, x -> x.changedAt(state, 1, -1));
            refused("p15 page" + told, ARGUMENT, x -> x.page(state, 1));
            refused("p15 page, places too," + told, ARGUMENT, x -> x.page(state, 0));
            refused("p18 removed" + told, ARGUMENT, x -> x.removed(state, 0, ANY));
            refused("p19 added" + told, ARGUMENT, x -> x.added(state, 0, ANY));
        }
    }

    private void refusesWaysAndPlaces() {
        for (int way : outside(0, 2)) {
            refused("p13 changed way " + way, ARGUMENT, x -> x.changed(scene.state, way));
            refused("p14 changedAt way " + way, ARGUMENT, x -> x.changedAt(scene.state, way, 0));
            refused("p14 changedAt ahead of the index, way " + way, ARGUMENT,
                    x -> x.changedAt(scene.state, way, -1));
        }
        for (int places : outside(1, 20)) {
            refused("p15 page places " + places, ARGUMENT, x -> x.page(scene.state, places));
        }
        int oldest = Math.max(0, scene.state - 40);
        for (int w = 0; w < 3; w++) {
            int way = w;
            int size = scene.made().changed(oldest, way);
            for (int index : outside(0, size - 1)) {
                refused("p14 changedAt index " + index, OUT, x -> x.changedAt(oldest, way, index));
            }
            refused("p14 changedAt the present state", OUT, x -> x.changedAt(scene.state, way, 0));
        }
    }

    private void refusesUntold() {
        if (scene.untold < 0) {
            return;
        }
        for (int state : new int[] {0, scene.untold}) {
            String told = " cannot tell " + state;
            for (int w = 0; w < 3; w++) {
                int way = w;
                refused("p13 changed" + told, STATE, x -> x.changed(state, way));
                refused("p14 changedAt" + told, STATE, x -> x.changedAt(state, way, 0));
                refused("p14 changedAt ahead of the index," + told, STATE, x -> x.changedAt(state, way, -1));
            }
            refused("p15 page" + told, STATE, x -> x.page(state, 1));
            refused("p15 page of 20" + told, STATE, x -> x.page(state, 20));
            refused("p18 removed" + told, STATE, x -> x.removed(state, 5, ANY));
            refused("p19 added" + told, STATE, x -> x.added(state, 0, 3));
            refused("p13 changed, way first," + told, ARGUMENT, x -> x.changed(state, 3));
            refused("p14 changedAt, way first," + told, ARGUMENT, x -> x.changedAt(state, -1, -1));
            refused("p15 page, places first," + told, ARGUMENT, x -> x.page(state, 21));
            refused("p18 removed, box first," + told, ARGUMENT, x -> x.removed(state, 6, ANY));
            refused("p18 removed, keyword first," + told, ARGUMENT, x -> x.removed(state, 0, -2));
            refused("p19 added, box first," + told, ARGUMENT, x -> x.added(state, -1, ANY));
            refused("p19 added, keyword first," + told, ARGUMENT, x -> x.added(state, 0, 4));
        }
    }

    private void refusesQueries() {
        for (int box : outside(0, 5)) {
            refused("p16 found box " + box, ARGUMENT, x -> x.found(box, ANY));
            refused("p17 foundAt box " + box, ARGUMENT, x -> x.foundAt(box, ANY, 0));
            refused("p17 foundAt ahead of the index, box " + box, ARGUMENT, x -> x.foundAt(box, ANY, -1));
        }
        for (int keyword : outside(ANY, 3)) {
            refused("p16 found keyword " + keyword, ARGUMENT, x -> x.found(0, keyword));
            refused("p17 foundAt keyword " + keyword, ARGUMENT, x -> x.foundAt(0, keyword, 0));
            refused("p17 foundAt ahead of the index, keyword " + keyword, ARGUMENT, x -> x.foundAt(0, keyword, 60));
        }
        for (int box : new int[] {0, 1, 5}) {
            for (int keyword : new int[] {ANY, 0, 3}) {
                int size = scene.made().found(box, keyword);
                for (int index : outside(0, size - 1)) {
                    refused("p17 foundAt index " + index, OUT, x -> x.foundAt(box, keyword, index));
                }
            }
        }
    }

    private void refusesQueryChanges() {
        for (int box : outside(0, 5)) {
            refused("p18 removed box " + box, ARGUMENT, x -> x.removed(scene.state, box, ANY));
            refused("p19 added box " + box, ARGUMENT, x -> x.added(scene.state, box, ANY));
        }
        for (int keyword : outside(ANY, 3)) {
            refused("p18 removed keyword " + keyword, ARGUMENT, x -> x.removed(scene.state, 0, keyword));
            refused("p19 added keyword " + keyword, ARGUMENT, x -> x.added(scene.state, 0, keyword));
        }
    }

    private void refusesWatches() {
        for (int client : outside(0, 1)) {
            refused("p20 watch client " + client, ARGUMENT, x -> watched(x, client, 3, 4));
        }
        for (int c = 0; c < 2; c++) {
            int client = c;
            for (int box : outside(0, 5)) {
                refused("p20 watch box " + box, ARGUMENT, x -> watched(x, client, box, 4));
            }
            for (int width : outside(1, 10)) {
                refused("p20 watch width " + width, ARGUMENT, x -> watched(x, client, 3, width));
            }
        }
    }

    private void refusesFlagsOffline() {
        int mail = Math.max(0, scene.inWindow);
        for (int client : outside(0, 1)) {
            refused("p21 flagOffline client " + client, ARGUMENT, x -> x.flagOffline(client, mail, 0, true));
        }
        for (int keyword : outside(0, 3)) {
            String told = " keyword " + keyword;
            refused("p21 flagOffline" + told, ARGUMENT, x -> x.flagOffline(0, mail, keyword, true));
            refused("p21 flagOffline taking away" + told, ARGUMENT, x -> x.flagOffline(0, mail, keyword, false));
        }
        for (int other : noMails()) {
            refused("p21 flagOffline mail " + other, ARGUMENT, x -> x.flagOffline(0, other, 0, true));
        }
        if (scene.allCame) {
            refused("p21 flagOffline a mail behind the window", ARGUMENT, x -> x.flagOffline(0, 54, 0, true));
        }
        if (scene.fullList) {
            for (int k = 0; k < 4; k++) {
                int keyword = k;
                refused("p21 flagOffline, a full list", STATE, x -> x.flagOffline(0, mail, keyword, true));
                refused("p21 flagOffline taking away, a full list", STATE, x -> x.flagOffline(0, mail, keyword, false));
            }
        }
    }

    private void refusesClients() {
        for (int client : outside(0, 1)) {
            String told = " client " + client;
            refused("p22 sync" + told, ARGUMENT, x -> x.sync(client));
            refused("p23 stateOf" + told, ARGUMENT, x -> x.stateOf(client));
            refused("p24 window" + told, ARGUMENT, x -> x.window(client));
            refused("p25 windowAt" + told, ARGUMENT, x -> x.windowAt(client, 0));
            refused("p25 windowAt ahead of the index," + told, ARGUMENT, x -> x.windowAt(client, -1));
            refused("p26 known" + told, ARGUMENT, x -> x.known(client, 0));
            refused("p26 known ahead of the index," + told, ARGUMENT, x -> x.known(client, 10));
            refused("p27 freshLoads" + told, ARGUMENT, x -> x.freshLoads(client));
        }
        for (int c = 0; c < 2; c++) {
            int client = c;
            for (int index : outside(0, scene.made().window(client) - 1)) {
                refused("p25 windowAt index " + index, OUT, x -> x.windowAt(client, index));
                refused("p26 known index " + index, OUT, x -> x.known(client, index));
            }
        }
    }
}
