/** Promise 7: force; and what the core lets through, holds back, forbids. */
public final class ForceTest {
    public static void main(String[] args) {
        table();
        wrongParts();
        deadAndFull();
        thrownAway();
        takenWhileServersWait();
        answerIsHeld();
        askingServerIsHeld();
        wellIsHeld();
        Check.end();
    }

    private static boolean allowed(int from, int to) {
        if (from >= 4) {
            return to == 2 || to == 3;
        }
        switch (from) {
            case 0:
                return to == 1 || to == 2;
            case 1:
                return to == 0 || to == 2;
            case 2:
                return to == 1 || to == 3 || to >= 4;
            default:
                return to == 2 || to >= 4;
        }
    }

    /** With users 4 and 5 living, every pair of parts. */
    private static void table() {
        for (int from = 0; from < 12; from++) {
            for (int to = 0; to < 12; to++) {
                ServerHouse h = new ServerHouse();
                Check.asked(h, 4, Check.FORK, 0, 0, 5);
                int through = h.count(13);
                int due = from > 5 ? -1 : !allowed(from, to) ? 1 : to > 5 ? 2 : 0;
                Check.due("force(" + from + ", " + to + ")", h.force(from, to), due);
                Check.due("forbidden", h.count(9), due == 1 ? 1 : 0);
                Check.due("let through", h.count(13), through + (due == 0 ? 1 : 0));
                if (due == 0) {
                    Check.mail(h, to, h.inbox(to) - 1, from, 0, 0, 0, 0);
                }
            }
        }
    }

    private static void wrongParts() {
        ServerHouse h = new ServerHouse();
        for (int x : Check.WILD) {
            if (x < 0 || x > 11) {
                Check.due("force(" + x + ", 2)", h.force(x, 2), -1);
                Check.due("force(2, " + x + ")", h.force(2, x), -1);
            }
        }
        Check.due("forbidden", h.count(9), 0);
        h.crash();
        Check.due("the dead send nothing", h.force(1, 2), -1);
        Check.due("nor what is forbidden", h.force(1, 3), -1);
        Check.due("forbidden still", h.count(9), 0);
    }

    private static void deadAndFull() {
        ServerHouse h = new ServerHouse();
        Check.due("forbidden, ahead of dead", h.force(0, 5), 1);
        Check.due("dead", h.force(2, 5), 2);
        Check.forceTimes(h, 2, 1, 12);
        Check.due("full", h.force(2, 1), 3);
        Check.due("forbidden, ahead of full", h.force(3, 1), 1);
        h.steps(2);
        Check.due("one was taken, and none was held back", h.inbox(1), 11);
        h.steps(12);
        Check.due("nor later", h.inbox(1), 10);
        Check.due("let through", h.count(13), 12);
        h.crash();
        Check.due("dead, ahead of full", h.force(2, 1), 2);
    }

    private static void thrownAway() {
        ServerHouse h = new ServerHouse();
        Check.forceTimes(h, 3, 4, 2);
        h.call(4, Check.PARENT, 0, 0);
        Check.stepTo(h, 5);
        Check.due("one was thrown away: that was the turn", h.inbox(4), 2);
        Check.due("no answer came", h.user(4, 3), 0);
        Check.stepTo(h, 17);
        Check.due("another one", h.user(4, 1), 1);
        Check.stepTo(h, 29);
        Check.due("then the answer", h.user(4, 1), 0);
        Check.due("one answer in all", h.user(4, 3), 1);
    }

    private static void takenWhileServersWait() {
        ServerHouse h = new ServerHouse();
        Check.asked(h, 4, Check.FORK, 0, 0, 5);
        Check.asked(h, 4, Check.OPEN, 0, 0, 0);
        h.hang();
        h.call(4, Check.WRITE, 0, 1);
        h.call(5, Check.OPEN, 1, 0);
        h.steps(12);
        Check.due("the file server waits", h.count(6), 1);
        Check.mail(h, 2, 0, 5, Check.OPEN);
        Check.due("from a user", h.force(5, 2), 0);
        Check.due("from 0", h.force(0, 2), 0);
        h.steps(12);
        Check.due("one was taken", h.inbox(2), 2);
        Check.mail(h, 2, 0, 5, Check.OPEN);
        Check.mail(h, 2, 1, 0, 0);
        h.steps(12);
        Check.due("the other one too", h.inbox(2), 1);
        Check.due("it waits still", h.count(6), 1);
        h.steps(12);
        Check.due("the call stays", h.inbox(2), 1);

        h.call(5, Check.PARENT, 0, 0);
        ServerHouse g = new ServerHouse();
        g.call(4, Check.FORK, 0, 0);
        Check.stepTo(g, 4);
        Check.due("the process server waits", g.count(7), 1);
        Check.forceTimes(g, 4, 3, 1);
        Check.forceTimes(g, 2, 3, 1);
        Check.stepTo(g, 16);
        Check.due("a forced one from a user was taken first", g.inbox(3), 2);
        Check.due("it waits still", g.count(7), 1);
        Check.stepTo(g, 28);
        Check.due("one from 2 does not end that", g.count(7), 1);
        Check.stepTo(g, 40);
        Check.due("32 does", g.count(7), 0);
    }

    private static void answerIsHeld() {
        ServerHouse h = new ServerHouse();
        h.call(4, Check.OPEN, 0, 0);
        Check.forceTimes(h, 2, 4, 12);
        Check.stepTo(h, 3);
        Check.due("the file was made", h.file(0, 0), 0);
        Check.due("the answer was not let through", h.count(13), 13);
        Check.forceTimes(h, 0, 2, 2);
        Check.stepTo(h, 15);
        Check.due("the turn was to send it again", h.inbox(2), 2);
        Check.mail(h, 4, 11, 2, 50, 0, 0, 0);
        Check.stepTo(h, 27);
        Check.due("now it takes messages again", h.inbox(2), 1);
        Check.stepTo(h, 148);
        Check.due("the answer is the thirteenth", h.user(4, 1), 1);
        Check.stepTo(h, 149);
        Check.due("which comes", h.user(4, 1), 0);
    }

    private static void askingServerIsHeld() {
        ServerHouse h = new ServerHouse();
        h.call(4, Check.FORK, 0, 0);
        Check.stepTo(h, 3);
        Check.forceTimes(h, 4, 2, 12);
        Check.stepTo(h, 4);
        Check.due("it waits for 2, to which 30 did not go", h.count(7), 1);
        Check.due("let through", h.count(13), 13);
        Check.stepTo(h, 16);
        Check.mail(h, 2, 11, 3, 30, 4, 5, 0);
        Check.stepTo(h, 158);
        Check.due("no child yet", h.user(5, 0), 0);
        Check.stepTo(h, 160);
        Check.due("a child", h.user(5, 0), 1);

        ServerHouse g = Check.withNumbers(1);
        Check.asked(g, 4, Check.SEEK, 0, 0, 0);
        g.call(4, Check.READ, 0, 0);
        int turn = g.count(0) / 12 * 12 + 12 + 2;
        Check.stepTo(g, turn);
        Check.forceTimes(g, 0, 1, 12);
        g.steps(1);
        Check.due("it waits for 1, to which 20 did not go", g.count(6), 1);
        Check.due("the last one there is a forced one", g.message(1, 11, 1), 0);
        g.crash();
        g.steps(12);
        Check.due("then it is lost, but it waits", g.count(6), 1);
        g.until(4, 1000);
        Check.due("and it went out anew", g.user(4, 2), 100);
    }

    private static void wellIsHeld() {
        ServerHouse h = new ServerHouse();
        Check.stepTo(h, 109);
        Check.forceTimes(h, 1, 0, 12);
        Check.stepTo(h, 110);
        Check.due("the 40 was taken", h.inbox(1), 0);
        Check.due("the 41 found no room", h.message(0, 11, 1), 0);
        Check.forceTimes(h, 0, 1, 1);
        Check.stepTo(h, 122);
        Check.mail(h, 0, 11, 1, 41);
        Check.due("sending it again was the turn", h.inbox(1), 1);
        Check.stepTo(h, 134);
        Check.due("now it takes messages", h.inbox(1), 0);
    }
}
