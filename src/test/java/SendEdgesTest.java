/** Terms 1 of the document, sentence by sentence: parts, turns, inboxes, and what sending tells. */
public final class SendEdgesTest {
    public static void main(String[] args) {
        twelveParts();
        aRoundIsTwelve();
        theDeadPass();
        inboxesHoldTwelve();
        numbersNotTold();
        numbersOfAnswersByFiles();
        numbersOfAnswersByProcesses();
        eightMore();
        allowed();
        forbiddenAheadOfDeadAndFull();
        dead();
        deadByLife();
        deadByLifeAheadOfFull();
        onlyFilesAreToldOfALife();
        lastInTheInbox();
        forcedOnesAreThrownAway();
        Check.end();
    }

    /** Somebody who may send to a part. */
    private static int senderTo(int part) {
        int[] senders = {1, 0, 3, 2};
        return part < 4 ? senders[part] : 2;
    }

    private static void twelveParts() {
        Check.sentence("PARTS: 0 the KEEPER .. 4 .. 11 USERS");
        ServerHouse h = new ServerHouse();
        Check.due("inbox(-1)", h.inbox(-1), -1);
        Check.due("inbox(0)", h.inbox(0), 0);
        Check.due("inbox(11)", h.inbox(11), 0);
        Check.due("inbox(12)", h.inbox(12), -1);
        Check.missing("user(3, 0)", () -> h.user(3, 0));
        Check.due("user(4, 0)", h.user(4, 0), 1);
        Check.due("user(11, 0)", h.user(11, 0), 0);
        Check.missing("user(12, 0)", () -> h.user(12, 0));
    }

    private static void aRoundIsTwelve() {
        Check.sentence("TURNS go round in this order, beginning with 0; a round is 12.");
        Check.due("the first turn of all", new ServerHouse().count(1), 0);
        ServerHouse h = Check.withFamily();
        Check.calm(h);
        for (int part = 0; part < 12; part++) {
            Check.due("force to " + part, h.force(senderTo(part), part), 0);
        }
        for (int part = 0; part < 12; part++) {
            Check.due("whose turn is next", h.count(1), part);
            Check.due("ahead of the turn of " + part, h.inbox(part), 1);
            h.steps(1);
            Check.due("behind the turn of " + part, h.inbox(part), 0);
        }
        Check.due("after 11 comes 0", h.count(1), 0);
        Check.forceTimes(h, 1, 0, 1);
        h.steps(1);
        Check.due("which takes a message", h.inbox(0), 0);
        Check.due("then 1", h.count(1), 1);
    }

    private static void theDeadPass() {
        Check.sentence("Parts that do not live pass theirs.");
        ServerHouse h = new ServerHouse();
        h.crash();
        for (int i = 1; i <= 24; i++) {
            Check.due("a turn that is passed is a step too", h.steps(1), i);
            Check.due("and the next one is next", h.count(1), i % 12);
        }
    }

    private static void inboxesHoldTwelve() {
        Check.sentence("A part has an INBOX of at most 12 messages");
        for (int part = 0; part < 12; part++) {
            ServerHouse h = Check.withFamily();
            int start = Check.calm(h);
            int from = senderTo(part);
            Check.forceTimes(h, from, part, 11);
            Check.due("the twelfth to " + part, h.force(from, part), 0);
            Check.due("the thirteenth to " + part, h.force(from, part), 3);
            Check.due("inbox(" + part + ")", h.inbox(part), 12);
            Check.due("its last", h.message(part, 11, 1), 0);
            Check.due("none behind it", h.message(part, 12, 1), -1);
            Check.turnDone(h, start, 0, part);
            Check.due("one was taken", h.inbox(part), 11);
            Check.due("there is room for one", h.force(from, part), 0);
            Check.due("and no more", h.force(from, part), 3);
        }
    }

    private static void numbersNotTold() {
        Check.sentence("three numbers (0 for those not told)");
        ServerHouse h = Check.withNumbers(9);
        int start = Check.calm(h);
        Check.forceTimes(h, 4, 3, 1);
        Check.mail(h, 3, 0, 4, 0, 0, 0, 0, -1);
        h.call(4, Check.WRITE, 0, -9);
        Check.mail(h, 2, 0, 4, Check.WRITE, 0, -9, 0, -1);
        Check.turnDone(h, start, 0, 2);
        Check.mail(h, 1, 0, 2, 20, 1, 0, 0, -1);
        Check.turnDone(h, start, 2, 1);
        Check.mail(h, 2, 0, 1, 22, 0, 0, 0, -1);
        Check.turnDone(h, start, 2, 2);
        Check.mail(h, 1, 0, 2, 21, 1, 0, 0, -1);
        Check.turnDone(h, start, 4, 1);
        Check.mail(h, 2, 0, 1, 22, 0, 0, 0, -1);

        ServerHouse g = new ServerHouse();
        g.call(4, Check.FORK, 77, 78);
        Check.mail(g, 3, 0, 4, Check.FORK, 77, 78, 0, -1);
        Check.turnDone(g, 0, 0, 3);
        Check.mail(g, 2, 0, 3, 30, 4, 5, 0, -1);
        Check.turnDone(g, 0, 1, 2);
        Check.mail(g, 3, 0, 2, 32, 0, 0, 0, -1);
        g.until(4, 12);
        g.call(4, Check.KILL, 5, 79);
        Check.turnDone(g, 0, 2, 3);
        Check.mail(g, 2, 0, 3, 31, 5, 0, 0, -1);
        Check.turnDone(g, 0, 3, 2);
        Check.mail(g, 3, 0, 2, 32, 0, 0, 0, -1);
        Check.turnDone(g, 0, 9, 0);
        Check.mail(g, 1, 0, 0, 40, 0, 0, 0, -1);
        Check.turnDone(g, 0, 9, 1);
        Check.mail(g, 0, 0, 1, 41, 0, 0, 0, -1);
        g.crash();
        Check.turnDone(g, 0, 12, 0);
        Check.mail(g, 2, 0, 0, 42, 2, 0, 0, -1);
    }

    /** A call that is answered in the given turn of its server (0 the next): what the answer holds. */
    private static void answered(ServerHouse h, int turn, int kind, int a, int b, int want) {
        int server = kind <= Check.SIZE ? 2 : 3;
        int start = Check.calm(h);
        Check.due("call of kind " + kind, h.call(4, kind, a, b), 0);
        Check.turnDue(h, start, turn, server);
        Check.due("no answer to " + kind + " yet", h.inbox(4), 0);
        h.steps(1);
        Check.mail(h, 4, 0, server, 50, want, 0, 0, -1);
        h.steps(12);
        Check.due("the answer to " + kind, h.user(4, 2), want);
        Check.due("it has no call", h.user(4, 1), 0);
    }

    private static void numbersOfAnswersByFiles() {
        Check.sentence("the answer (50, from 2 or 3)");
        ServerHouse h = new ServerHouse();
        answered(h, 0, Check.OPEN, 6, 5, 0);
        answered(h, 0, Check.OPEN, 16, 5, -1);
        answered(h, 0, Check.READ, 0, 5, -5);
        answered(h, 0, Check.READ, 1, 5, -8);
        answered(h, 0, Check.WRITE, 1, 5, -8);
        answered(h, 2, Check.WRITE, 0, 33, 0);
        answered(h, 4, Check.WRITE, 0, 44, 0);
        answered(h, 0, Check.SEEK, 0, 1, 0);
        answered(h, 0, Check.SEEK, 0, 3, -1);
        answered(h, 2, Check.READ, 0, 5, 44);
        answered(h, 0, Check.SIZE, 0, 5, 2);
        answered(h, 0, Check.REMOVE, 6, 5, -7);
        answered(h, 0, Check.CLOSE, 0, 5, 0);
        answered(h, 0, Check.REMOVE, 6, 5, 0);
        answered(h, 0, Check.REMOVE, 6, 5, -1);
    }

    private static void numbersOfAnswersByProcesses() {
        Check.sentence("the answer (50, from 2 or 3)");
        ServerHouse h = new ServerHouse();
        answered(h, 0, Check.WAIT, 9, 9, -10);
        answered(h, 0, Check.KILL, 5, 9, -11);
        answered(h, 0, Check.PARENT, 9, 9, 0);
        for (int child = 5; child <= 11; child++) {
            answered(h, 1, Check.FORK, 9, 9, child);
        }
        answered(h, 0, Check.FORK, 9, 9, -9);
        answered(h, 1, Check.KILL, 5, 9, 0);
        answered(h, 0, Check.WAIT, 9, 9, 5 * 256 + 255);
        int start = Check.calm(h);
        h.call(4, Check.WAIT, 9, 9);
        Check.turnDone(h, start, 1, 3);
        h.call(6, Check.EXIT, 7, 9);
        Check.turnDone(h, start, 3, 3);
        Check.mail(h, 4, 0, 3, 50, 6 * 256 + 7, 0, 0, -1);
    }

    private static void eightMore() {
        Check.sentence("eight more with 21, 22");
        int[] numbers = {Integer.MIN_VALUE, -1, 0, 1, Integer.MAX_VALUE, 50, 22, 8};
        ServerHouse h = new ServerHouse();
        Check.asked(h, 4, Check.OPEN, 0, 0, 0);
        for (int v : numbers) {
            Check.asked(h, 4, Check.WRITE, 0, v, 0);
        }
        for (int k = 0; k < 8; k++) {
            Check.due("disk(0, " + k + ")", h.disk(0, k), numbers[k]);
            Check.asked(h, 4, Check.SEEK, 0, k, 0);
            Check.asked(h, 4, Check.READ, 0, 0, numbers[k]);
        }
    }

    private static boolean mayTell(int from, int to) {
        boolean users = to >= 4;
        switch (from) {
            case 0:
                return to == 1 || to == 2;
            case 1:
                return to == 0 || to == 2;
            case 2:
                return to == 1 || to == 3 || users;
            case 3:
                return to == 2 || users;
            default:
                return to == 2 || to == 3;
        }
    }

    private static void allowed() {
        Check.sentence("ALLOWED are: USERS to 2, 3; 3 to 2, to USERS; 2 to 1, 3, to USERS; 1 to 0, 2; 0 to 1, 2.");
        ServerHouse h = Check.withFamily();
        int passed = h.count(13);
        int forbidden = 0;
        for (int from = 0; from < 12; from++) {
            for (int to = 0; to < 12; to++) {
                boolean may = mayTell(from, to);
                Check.due("force(" + from + ", " + to + ")", h.force(from, to), may ? 0 : 1);
                passed += may ? 1 : 0;
                forbidden += may ? 0 : 1;
            }
        }
        Check.due("let through", h.count(13), passed);
        Check.due("forbidden", h.count(9), forbidden);
    }

    private static void forbiddenAheadOfDeadAndFull() {
        Check.sentence("the first that holds: 1 FORBIDDEN: the table doesn't allow it");
        ServerHouse h = new ServerHouse();
        Check.due("to one that never lived", h.force(0, 5), 1);
        Check.due("from the driver to one that never lived", h.force(1, 11), 1);
        Check.forceTimes(h, 2, 1, 12);
        Check.due("to a full inbox", h.force(3, 1), 1);
        Check.forceTimes(h, 2, 3, 12);
        Check.due("to another full one", h.force(0, 3), 1);
        h.crash();
        Check.due("to a dead driver", h.force(4, 1), 1);
        Check.due("forbidden", h.count(9), 5);
        Check.due("let through", h.count(13), 24);
    }

    private static void dead() {
        Check.sentence("2 DEAD: the other one does not live");
        ServerHouse h = Check.withFamily();
        Check.due("one that lives", h.force(3, 9), 0);
        h.call(9, Check.EXIT, 0, 0);
        h.steps(36);
        Check.due("one that ended and is waited for", h.force(3, 9), 2);
        Check.due("by the file server too", h.force(2, 9), 2);
        Check.asked(h, 4, Check.WAIT, 0, 0, 9 * 256);
        Check.due("one that is free", h.force(2, 9), 2);
        int start = Check.calm(h);
        h.call(8, Check.EXIT, 0, 0);
        Check.turnDone(h, start, 0, 3);
        Check.due("one of whose end 2 was not heard of yet", h.force(2, 8), 2);
        h.crash();
        Check.due("a driver that crashed, by 0", h.force(0, 1), 2);
        Check.due("by 2", h.force(2, 1), 2);
        Check.due("none is forbidden", h.count(9), 0);

        ServerHouse g = new ServerHouse();
        for (int u = 5; u <= 11; u++) {
            Check.due("one that never lived", g.force(2, u), 2);
        }
        Check.due("let through", g.count(13), 0);
    }

    /** A house whose driver began its life 2 in step start + 25, with a read in inbox 2 ahead of the 42. */
    private static ServerHouse withReadAheadOfNews() {
        ServerHouse h = Check.withNumbers(1);
        Check.asked(h, 4, Check.SEEK, 0, 0, 0);
        int start = Check.calm(h);
        h.crash();
        Check.turnDue(h, start, 2, 0);
        h.call(4, Check.READ, 0, 0);
        Check.turnDone(h, start, 2, 0);
        Check.due("life", h.count(2), 2);
        Check.mail(h, 2, 0, 4, Check.READ);
        Check.mail(h, 2, 1, 0, 42, 2);
        return h;
    }

    private static void deadByLife() {
        Check.sentence("or (the DRIVER, by the FILE SERVER) has another LIFE than that was told of");
        ServerHouse h = withReadAheadOfNews();
        int start = h.count(0) - 25;
        int passed = h.count(13);
        Check.turnDone(h, start, 2, 2);
        Check.due("it waits", h.count(6), 1);
        Check.due("its message is lost", h.inbox(1), 0);
        Check.due("not let through", h.count(13), passed);
        Check.due("nor forbidden", h.count(9), 0);
        Check.turnDone(h, start, 3, 2);
        Check.mail(h, 1, 0, 2, 20, 0, 0, 0);
        h.until(4, 100);
        Check.due("the answer", h.user(4, 2), 100);
    }

    private static void deadByLifeAheadOfFull() {
        Check.sentence("the first that holds: .. 2 DEAD .. 3 FULL");
        ServerHouse h = withReadAheadOfNews();
        int start = h.count(0) - 25;
        Check.turnDone(h, start, 2, 1);
        Check.forceTimes(h, 0, 1, 12);
        Check.turnDone(h, start, 2, 2);
        Check.due("it waits", h.count(6), 1);
        Check.turnDone(h, start, 3, 1);
        Check.forceTimes(h, 0, 1, 1);
        Check.turnDone(h, start, 3, 2);
        Check.due("nothing stayed with it: its turn takes the 42", h.inbox(2), 0);
        Check.turnDone(h, start, 4, 1);
        Check.due("now it was full: a forced one is the last", h.message(1, 10, 1), 0);
        Check.turnDone(h, start, 4, 2);
        Check.mail(h, 1, 11, 2, 20, 0, 0, 0);
    }

    private static void onlyFilesAreToldOfALife() {
        Check.sentence("(the DRIVER, by the FILE SERVER)");
        ServerHouse h = new ServerHouse();
        Check.stepTo(h, 72);
        h.crash();
        Check.stepTo(h, 96);
        Check.forceTimes(h, 3, 2, 11);
        Check.stepTo(h, 109);
        Check.due("life", h.count(2), 2);
        Check.mail(h, 2, 10, 0, 42, 2);
        Check.mail(h, 1, 0, 0, 40);
        Check.due("a forced one by 0", h.force(0, 1), 0);
        Check.due("a forced one by 2: DEAD never by a LIFE", h.force(2, 1), 0);
    }

    private static void lastInTheInbox() {
        Check.sentence("0: it is the last in the INBOX");
        ServerHouse h = new ServerHouse();
        int[] senders = {3, 0, 1, 4, 0};
        for (int k = 0; k < senders.length; k++) {
            Check.due("force(" + senders[k] + ", 2)", h.force(senders[k], 2), 0);
            Check.due("inbox(2)", h.inbox(2), k + 1);
            for (int i = 0; i <= k; i++) {
                Check.due("sender of " + i, h.message(2, i, 0), senders[i]);
            }
        }
    }

    private static void forcedOnesAreThrownAway() {
        Check.sentence("Of kind 0 (force()) a message is taken as any other, and thrown away: that was the TURN.");
        ServerHouse h = new ServerHouse();
        Check.forceTimes(h, 4, 2, 1);
        h.call(4, Check.OPEN, 0, 0);
        Check.turnDone(h, 0, 0, 2);
        Check.mail(h, 2, 0, 4, Check.OPEN);
        Check.due("the call is not begun in that turn", h.file(0, 0), -1);
        Check.turnDone(h, 0, 1, 2);
        Check.due("but in the next", h.file(0, 0), 0);
        Check.forceTimes(h, 3, 4, 1);
        Check.mail(h, 4, 0, 2, 50);
        h.until(4, 12);
        h.call(4, Check.WRITE, 0, 5);
        Check.forceTimes(h, 0, 1, 1);
        Check.turnDone(h, 0, 2, 2);
        Check.mail(h, 1, 0, 2, 21);
        Check.due("a user's turn was to throw one away", h.inbox(4), 1);
        Check.forceTimes(h, 2, 1, 1);
        h.until(4, 100);
        Check.due("it is answered", h.user(4, 3), 2);

        ServerHouse g = new ServerHouse();
        Check.forceTimes(g, 2, 1, 1);
        Check.forceTimes(g, 4, 3, 1);
        g.call(4, Check.PARENT, 0, 0);
        Check.turnDone(g, 0, 0, 3);
        Check.due("the driver's turn", g.inbox(1), 0);
        Check.due("no job of it", g.count(5), 0);
        Check.mail(g, 3, 0, 4, Check.PARENT);
        Check.due("no answer yet", g.inbox(4), 0);
        Check.turnDone(g, 0, 1, 3);
        Check.mail(g, 4, 0, 3, 50);
        Check.forceTimes(g, 3, 4, 1);
        Check.turnDone(g, 0, 1, 4);
        Check.due("the answer", g.user(4, 3), 1);
        Check.turnDone(g, 0, 2, 4);
        Check.due("a forced one is no answer", g.user(4, 3), 1);
        Check.due("but was taken", g.inbox(4), 0);
        Check.forceTimes(g, 1, 0, 2);
        Check.turnDone(g, 0, 3, 0);
        Check.due("the keeper takes one in a turn", g.inbox(0), 1);
    }
}
