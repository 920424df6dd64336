/** Promise 8: user; and the calls to the process server. */
public final class UserTest {
    public static void main(String[] args) {
        none();
        answersOfAllLives();
        forkAndParent();
        forkIsFull();
        exitCodes();
        waiting();
        killing();
        orphans();
        userFour();
        interim();
        killedWithCallInHand();
        killedWhileItWaits();
        messagesOfTheDead();
        Check.end();
    }

    private static void none() {
        ServerHouse h = new ServerHouse();
        for (int x : Check.WILD) {
            if (x < 4 || x > 11) {
                Check.missing("user(" + x + ", 0)", () -> h.user(x, 0));
            }
            if (x < 0 || x > 6) {
                Check.missing("user(4, " + x + ")", () -> h.user(4, x));
                Check.missing("user(" + x + ", " + x + ")", () -> h.user(x, x));
            }
        }
    }

    private static ServerHouse withChildren(int children) {
        ServerHouse h = new ServerHouse();
        for (int i = 0; i < children; i++) {
            Check.asked(h, 4, Check.FORK, 0, 0, 5 + i);
        }
        return h;
    }

    private static void exit(ServerHouse h, int u, int code) {
        Check.due("exit of " + u, h.call(u, Check.EXIT, code, 0), 0);
        h.steps(60);
    }

    private static void answersOfAllLives() {
        ServerHouse h = withChildren(1);
        Check.due("its child was not answered", h.user(5, 3), 0);
        Check.asked(h, 5, Check.PARENT, 0, 0, 4);
        Check.asked(h, 5, Check.READ, 0, 0, -8);
        exit(h, 5, 1);
        Check.due("answers", h.user(5, 3), 2);
        Check.asked(h, 4, Check.WAIT, 0, 0, 5 * 256 + 1);
        Check.asked(h, 4, Check.FORK, 0, 0, 5);
        Check.due("the latest answer of all lives", h.user(5, 2), -8);
        Check.due("answers of all lives", h.user(5, 3), 2);
        Check.due("but the code is of this life alone", h.user(5, 5), 0);
        Check.asked(h, 5, Check.PARENT, 0, 0, 4);
        Check.due("one more", h.user(5, 3), 3);
    }

    private static void forkAndParent() {
        ServerHouse h = new ServerHouse();
        Check.asked(h, 4, Check.OPEN, 7, 0, 0);
        Check.asked(h, 4, Check.OPEN, 8, 0, 1);
        Check.asked(h, 4, Check.WRITE, 1, 70, 0);
        Check.asked(h, 4, Check.CLOSE, 0, 0, 0);
        h.call(4, Check.FORK, 0, 0);
        h.until(4, 100);
        Check.due("the child lives", h.user(5, 0), 1);
        Check.due("it has no call", h.user(5, 1), 0);
        Check.due("its parent", h.user(5, 4), 4);
        Check.due("its descriptors", h.user(5, 6), 1);
        Check.due("its file", h.descriptor(5, 1, 0), 8);
        Check.due("its place", h.descriptor(5, 1, 1), 1);
        Check.asked(h, 5, Check.SEEK, 1, 0, 0);
        Check.due("from then on each its own", h.descriptor(4, 1, 1), 1);
        Check.asked(h, 5, Check.FORK, 0, 0, 6);
        Check.due("its parent", h.user(6, 4), 5);
        Check.asked(h, 6, Check.PARENT, 0, 0, 5);
        Check.asked(h, 4, Check.PARENT, 0, 0, 0);
        Check.due("users that live", h.count(12), 3);
    }

    private static void forkIsFull() {
        ServerHouse h = withChildren(7);
        Check.due("all live", h.count(12), 8);
        Check.asked(h, 4, Check.FORK, 0, 0, -9);
        exit(h, 8, 3);
        exit(h, 6, 2);
        Check.asked(h, 4, Check.FORK, 0, 0, -9);
        Check.asked(h, 4, Check.WAIT, 0, 0, 6 * 256 + 2);
        Check.asked(h, 4, Check.WAIT, 0, 0, 8 * 256 + 3);
        Check.asked(h, 7, Check.FORK, 0, 0, 6);
        Check.due("its parent now", h.user(6, 4), 7);
        Check.asked(h, 4, Check.FORK, 0, 0, 8);
        Check.asked(h, 4, Check.FORK, 0, 0, -9);
    }

    private static void exitCodes() {
        int[][] codes = {{0, 0}, {255, 255}, {256, 0}, {300, 44}, {-1, 255}, {-256, 0}, {-257, 255},
            {Integer.MIN_VALUE, 0}, {Integer.MAX_VALUE, 255}};
        for (int[] pair : codes) {
            ServerHouse h = withChildren(1);
            exit(h, 5, pair[0]);
            Check.due("it ended", h.user(5, 0), 2);
            Check.due("nobody answers", h.user(5, 3), 0);
            Check.due("it has no call", h.user(5, 1), 0);
            Check.due("code of " + pair[0], h.user(5, 5), pair[1]);
            Check.due("its parent still", h.user(5, 4), 4);
            Check.asked(h, 4, Check.WAIT, 0, 0, 5 * 256 + pair[1]);
            Check.due("it is free", h.user(5, 0), 0);
            Check.due("without a parent", h.user(5, 4), -1);
            Check.due("its code when it ended", h.user(5, 5), pair[1]);
        }
    }

    private static void waiting() {
        ServerHouse h = withChildren(3);
        h.call(4, Check.WAIT, 0, 0);
        h.steps(120);
        Check.due("nobody ended", h.user(4, 1), 1);
        exit(h, 6, 9);
        Check.due("answered", h.user(4, 2), 6 * 256 + 9);
        Check.due("free", h.user(6, 0), 0);
        exit(h, 7, 1);
        exit(h, 5, 2);
        Check.asked(h, 4, Check.WAIT, 0, 0, 5 * 256 + 2);
        Check.asked(h, 4, Check.WAIT, 0, 0, 7 * 256 + 1);
        Check.asked(h, 4, Check.WAIT, 0, 0, -10);
    }

    private static void killing() {
        ServerHouse h = withChildren(2);
        Check.asked(h, 5, Check.FORK, 0, 0, 7);
        for (int x : Check.WILD) {
            if (x != 5) {
                Check.asked(h, 4, Check.KILL, x, 0, x == 6 ? 0 : -11);
            }
        }
        Check.asked(h, 5, Check.KILL, 4, 0, -11);
        Check.asked(h, 5, Check.KILL, 6, 0, -11);
        Check.asked(h, 4, Check.KILL, 5, 0, 0);
        Check.due("it ended", h.user(5, 0), 2);
        Check.due("its code", h.user(5, 5), 255);
        Check.due("its child lives on", h.user(7, 0), 1);
        Check.due("without a parent", h.user(7, 4), -1);
        Check.asked(h, 7, Check.PARENT, 0, 0, 0);
        Check.asked(h, 4, Check.KILL, 5, 0, -11);
        Check.asked(h, 4, Check.WAIT, 0, 0, 5 * 256 + 255);
    }

    private static void orphans() {
        ServerHouse h = withChildren(1);
        Check.asked(h, 5, Check.FORK, 0, 0, 6);
        Check.asked(h, 5, Check.FORK, 0, 0, 7);
        exit(h, 6, 1);
        Check.due("waited for", h.user(6, 0), 2);
        exit(h, 5, 2);
        Check.due("its child that ended is free", h.user(6, 0), 0);
        Check.due("the other one lives", h.user(7, 0), 1);
        Check.due("it has no parent", h.user(7, 4), -1);
        Check.due("the one that ended is waited for", h.user(5, 0), 2);
        exit(h, 7, 3);
        Check.due("without a parent it is free", h.user(7, 0), 0);
        Check.due("its code", h.user(7, 5), 3);
    }

    private static void userFour() {
        ServerHouse h = withChildren(2);
        exit(h, 4, 5);
        Check.due("user 4 is free", h.user(4, 0), 0);
        Check.due("its code", h.user(4, 5), 5);
        Check.due("call by it", h.call(4, Check.OPEN, 0, 0), 1);
        Check.asked(h, 5, Check.FORK, 0, 0, 7);
        Check.due("it never lives again", h.user(4, 0), 0);
        Check.due("users that live", h.count(12), 3);
        Check.due("its child has no parent", h.user(5, 4), -1);
    }

    private static void interim() {
        ServerHouse h = new ServerHouse();
        Check.asked(h, 4, Check.OPEN, 3, 0, 0);
        h.call(4, Check.EXIT, 6, 0);
        Check.stepTo(h, 15);
        Check.due("it lives", h.user(4, 0), 1);
        Check.stepTo(h, 16);
        Check.due("it lives no more", h.user(4, 0), 2);
        // The document leaves room here: one that lives no more is taken to have no call, and its code, at once.
        Check.due("its call is gone", h.user(4, 1), 0);
        Check.due("its code is told", h.user(4, 5), 6);
        Check.due("users that live", h.count(12), 0);
        Check.due("the process server waits", h.count(7), 1);
        Check.mail(h, 2, 0, 3, 31, 4, 0, 0);
        Check.stepTo(h, 26);
        Check.due("its descriptors are there still", h.user(4, 6), 1);
        Check.stepTo(h, 27);
        Check.due("they are closed", h.user(4, 6), 0);
        Check.mail(h, 3, 0, 2, 32, 0, 0, 0);
        Check.due("not heard of", h.user(4, 0), 2);
        Check.stepTo(h, 28);
        Check.due("free", h.user(4, 0), 0);
        Check.due("no longer waiting", h.count(7), 0);

        ServerHouse g = new ServerHouse();
        g.call(4, Check.FORK, 0, 0);
        Check.stepTo(g, 4);
        Check.mail(g, 2, 0, 3, 30, 4, 5, 0);
        Check.stepTo(g, 15);
        Check.mail(g, 3, 0, 2, 32, 0, 0, 0);
        Check.due("the child does not live yet", g.user(5, 0), 0);
        Check.stepTo(g, 16);
        Check.due("the child lives", g.user(5, 0), 1);
        Check.mail(g, 4, 0, 3, 50, 5, 0, 0);
    }

    /** A write that the file server has in hand is done, though its user was killed. */
    private static void killedWithCallInHand() {
        ServerHouse h = new ServerHouse();
        Check.asked(h, 4, Check.OPEN, 3, 0, 0);
        Check.asked(h, 4, Check.FORK, 0, 0, 5);
        h.call(5, Check.WRITE, 0, 66);
        h.call(4, Check.KILL, 5, 0);
        h.steps(12);
        Check.due("it lives no more", h.user(5, 0), 2);
        Check.due("the file server has its call in hand", h.count(6), 1);
        h.until(4, 1000);
        Check.due("who kills is answered", h.user(4, 2), 0);
        Check.due("it was written", h.disk(0, 0), 66);
        Check.due("the size", h.file(3, 0), 1);
        Check.due("nobody took an answer", h.user(5, 3), 0);
        Check.due("its inbox", h.inbox(5), 0);
        Check.due("its descriptors", h.user(5, 6), 0);
        Check.due("the other's place", h.descriptor(4, 0, 1), 0);
    }

    private static void killedWhileItWaits() {
        ServerHouse h = withChildren(1);
        Check.asked(h, 5, Check.FORK, 0, 0, 6);
        h.call(5, Check.WAIT, 0, 0);
        h.steps(24);
        Check.asked(h, 4, Check.KILL, 5, 0, 0);
        Check.asked(h, 4, Check.WAIT, 0, 0, 5 * 256 + 255);
        Check.asked(h, 4, Check.FORK, 0, 0, 5);
        Check.due("the new one has no call", h.user(5, 1), 0);
        Check.asked(h, 5, Check.FORK, 0, 0, 7);
        exit(h, 7, 8);
        Check.due("and does not wait", h.user(7, 0), 2);
        Check.due("so nothing came", h.user(5, 2), 7);
    }

    private static void messagesOfTheDead() {
        ServerHouse h = withChildren(1);
        int round = h.count(0) / 12 * 12 + 12;
        Check.stepTo(h, round + 3);
        Check.forceTimes(h, 3, 5, 2);
        h.call(4, Check.KILL, 5, 0);
        h.call(5, Check.OPEN, 0, 0);
        Check.forceTimes(h, 5, 2, 2);
        Check.forceTimes(h, 4, 2, 1);
        Check.forceTimes(h, 5, 3, 3);
        Check.stepTo(h, round + 4);
        Check.due("its inbox is empty", h.inbox(5), 0);
        Check.due("in the inbox of 2 are", h.inbox(2), 2);
        Check.mail(h, 2, 0, 4, 0);
        Check.mail(h, 2, 1, 3, 31, 5);
        Check.due("in the inbox of 3 are", h.inbox(3), 0);
        h.until(4, 1000);
        Check.due("its call was never begun", h.file(0, 0), -1);
    }
}
