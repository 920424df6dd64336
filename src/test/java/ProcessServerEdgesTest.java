/** Terms 3 of the document, sentence by sentence: the process server's turn. */
public final class ProcessServerEdgesTest {
    public static void main(String[] args) {
        firstMessage();
        othersStayWhileItWaits();
        childLivesAtTheEnd();
        livesNoMoreAtOnce();
        killedAtOnce();
        inboxIsEmpty();
        messagesGo();
        waitsNoMore();
        endedAtTheEnd();
        waitingParentIsAnswered();
        killerIsAnswered();
        callInHandIsDone();
        Check.end();
    }

    private static ServerHouse withChildren(int children) {
        ServerHouse h = new ServerHouse();
        for (int i = 0; i < children; i++) {
            Check.asked(h, 4, Check.FORK, 0, 0, 5 + i);
        }
        return h;
    }

    private static void firstMessage() {
        Check.sentence("THE PROCESS SERVER's TURN: the first message of its INBOX");
        ServerHouse h = withChildren(1);
        int start = Check.calm(h);
        h.call(5, Check.PARENT, 0, 0);
        h.call(4, Check.PARENT, 0, 0);
        Check.turnDone(h, start, 0, 3);
        Check.mail(h, 5, 0, 3, 50, 4, 0, 0);
        Check.due("the other one is not answered", h.inbox(4), 0);
        Check.mail(h, 3, 0, 4, Check.PARENT);
        Check.turnDone(h, start, 1, 3);
        Check.mail(h, 4, 0, 3, 50, 0, 0, 0);
        int passed = h.count(13);
        Check.turnDone(h, start, 3, 3);
        Check.due("without a message nothing", h.count(13), passed);
    }

    private static void othersStayWhileItWaits() {
        Check.sentence("but while it waits for 2 the first one from it, or of kind 0");
        ServerHouse h = withChildren(2);
        int start = Check.calm(h);
        h.call(4, Check.FORK, 0, 0);
        h.call(5, Check.PARENT, 0, 0);
        Check.turnDone(h, start, 0, 3);
        Check.due("it waits", h.count(7), 1);
        Check.forceTimes(h, 6, 3, 1);
        Check.turnDone(h, start, 1, 2);
        Check.mail(h, 3, 0, 5, Check.PARENT);
        Check.mail(h, 3, 1, 6, 0);
        Check.mail(h, 3, 2, 2, 32);
        Check.turnDone(h, start, 1, 3);
        Check.due("the one of kind 0 is gone", h.inbox(3), 2);
        Check.due("it waits on", h.count(7), 1);
        Check.due("no child yet", h.user(7, 0), 0);
        Check.mail(h, 3, 0, 5, Check.PARENT);
        Check.turnDone(h, start, 2, 3);
        Check.due("32 ends that", h.count(7), 0);
        Check.due("the call stays", h.inbox(3), 1);
        Check.due("a child", h.user(7, 0), 1);
        Check.turnDone(h, start, 3, 3);
        Check.mail(h, 5, 0, 3, 50, 4, 0, 0);

        ServerHouse g = withChildren(1);
        start = Check.calm(g);
        g.call(4, Check.FORK, 0, 0);
        Check.turnDone(g, start, 0, 3);
        Check.forceTimes(g, 0, 2, 2);
        Check.forceTimes(g, 2, 3, 1);
        Check.turnDone(g, start, 1, 3);
        Check.due("one from 2 of kind 0 was taken", g.inbox(3), 1);
        Check.due("which may not end the waiting", g.count(7), 1);
    }

    private static void childLivesAtTheEnd() {
        Check.sentence("FORK: 30 to 2, it waits; at 32 the child lives, the parent is answered");
        ServerHouse h = new ServerHouse();
        h.call(4, Check.FORK, 0, 0);
        Check.turnDone(h, 0, 0, 3);
        Check.mail(h, 2, 0, 3, 30, 4, 5, 0);
        Check.due("it waits", h.count(7), 1);
        Check.turnDue(h, 0, 1, 3);
        Check.due("it does not live yet", h.user(5, 0), 0);
        Check.due("it may not call", h.call(5, Check.PARENT, 0, 0), 1);
        Check.due("it has no parent", h.user(5, 4), -1);
        Check.due("dead to the core", h.force(2, 5), 2);
        Check.due("users that live", h.count(12), 1);
        h.steps(1);
        Check.due("it lives", h.user(5, 0), 1);
        Check.due("its parent", h.user(5, 4), 4);
        Check.due("users that live", h.count(12), 2);
        Check.mail(h, 4, 0, 3, 50, 5, 0, 0);
        Check.due("no more waiting", h.count(7), 0);
    }

    private static void livesNoMoreAtOnce() {
        Check.sentence("EXIT, KILL: the USER lives no more at once .. 31 to 2, it waits");
        ServerHouse h = withChildren(1);
        int start = Check.calm(h);
        h.call(5, Check.EXIT, 3, 0);
        Check.turnDue(h, start, 0, 3);
        Check.due("it lives", h.user(5, 0), 1);
        Check.due("and has a call", h.user(5, 1), 1);
        h.steps(1);
        Check.due("it lives no more", h.user(5, 0), 2);
        Check.due("users that live", h.count(12), 1);
        Check.due("it may not call", h.call(5, Check.PARENT, 0, 0), 1);
        Check.due("nor be forced", h.force(5, 2), -1);
        Check.mail(h, 2, 0, 3, 31, 5, 0, 0);
        Check.due("it waits", h.count(7), 1);
    }

    private static void killedAtOnce() {
        Check.sentence("EXIT, KILL: the USER lives no more at once .. 31 to 2, it waits");
        ServerHouse h = withChildren(1);
        int start = Check.calm(h);
        h.call(4, Check.KILL, 5, 0);
        Check.turnDone(h, start, 0, 3);
        Check.due("it lives no more", h.user(5, 0), 2);
        Check.due("who kills has its call", h.user(4, 1), 1);
        Check.due("nobody is answered yet", h.inbox(4), 0);
        Check.mail(h, 2, 0, 3, 31, 5, 0, 0);
        Check.due("it waits", h.count(7), 1);
    }

    private static void inboxIsEmpty() {
        Check.sentence("its INBOX is empty");
        ServerHouse h = withChildren(2);
        int start = Check.calm(h);
        h.call(4, Check.KILL, 5, 0);
        Check.forceTimes(h, 2, 5, 12);
        Check.forceTimes(h, 2, 6, 1);
        Check.turnDone(h, start, 0, 3);
        Check.due("its inbox", h.inbox(5), 0);
        Check.due("no message in it", h.message(5, 0, 0), -1);
        Check.due("another's stays", h.inbox(6), 1);
    }

    private static void messagesGo() {
        Check.sentence("messages from it in the INBOXES of 2 and 3 go");
        ServerHouse h = withChildren(2);
        int start = Check.calm(h);
        Check.turnDue(h, start, 0, 3);
        h.call(4, Check.KILL, 5, 0);
        h.call(5, Check.OPEN, 9, 0);
        h.call(6, Check.OPEN, 8, 0);
        Check.forceTimes(h, 5, 2, 2);
        Check.forceTimes(h, 4, 2, 1);
        Check.forceTimes(h, 5, 2, 1);
        Check.forceTimes(h, 5, 3, 3);
        Check.forceTimes(h, 6, 3, 1);
        Check.forceTimes(h, 5, 3, 1);
        h.steps(1);
        Check.due("of 2", h.inbox(2), 3);
        Check.mail(h, 2, 0, 6, Check.OPEN, 8);
        Check.mail(h, 2, 1, 4, 0);
        Check.mail(h, 2, 2, 3, 31, 5);
        Check.due("of 3", h.inbox(3), 1);
        Check.mail(h, 3, 0, 6, 0);
        h.steps(48);
        Check.due("its call was never begun", h.file(9, 0), -1);
        Check.due("the other's was", h.file(8, 0), 0);
    }

    private static void waitsNoMore() {
        Check.sentence("it WAITS no more");
        ServerHouse h = withChildren(1);
        Check.asked(h, 5, Check.FORK, 0, 0, 6);
        h.call(5, Check.WAIT, 0, 0);
        h.steps(24);
        Check.asked(h, 4, Check.KILL, 5, 0, 0);
        Check.asked(h, 4, Check.WAIT, 0, 0, 5 * 256 + 255);
        Check.asked(h, 4, Check.FORK, 0, 0, 5);
        Check.asked(h, 5, Check.FORK, 0, 0, 7);
        int answers = h.user(5, 3);
        h.call(7, Check.EXIT, 1, 0);
        h.steps(60);
        Check.due("the new life waits for nobody", h.user(5, 3), answers);
        Check.due("so its child is there still", h.user(7, 0), 2);
        Check.asked(h, 5, Check.WAIT, 0, 0, 7 * 256 + 1);
    }

    private static void endedAtTheEnd() {
        Check.sentence("at 32 it has ended (see 2)");
        ServerHouse h = withChildren(1);
        Check.asked(h, 5, Check.FORK, 0, 0, 6);
        Check.asked(h, 5, Check.FORK, 0, 0, 7);
        h.call(6, Check.EXIT, 1, 0);
        int start = Check.calm(h);
        h.call(5, Check.EXIT, 2, 0);
        Check.turnDue(h, start, 1, 3);
        Check.due("its child has its parent", h.user(7, 4), 5);
        Check.due("the one that ended is not free yet", h.user(6, 0), 2);
        h.steps(1);
        Check.due("no parent from now on", h.user(7, 4), -1);
        Check.due("free", h.user(6, 0), 0);
        Check.due("no more waiting for 2", h.count(7), 0);

        ServerHouse g = new ServerHouse();
        g.call(4, Check.EXIT, 1, 0);
        Check.turnDue(g, 0, 1, 3);
        Check.due("2 was not heard of yet", g.user(4, 0), 2);
        g.steps(1);
        Check.due("without a parent it is free", g.user(4, 0), 0);
    }

    private static void waitingParentIsAnswered() {
        Check.sentence("a parent that WAITS is answered");
        ServerHouse h = withChildren(2);
        h.call(4, Check.WAIT, 0, 0);
        int start = Check.calm(h);
        h.call(6, Check.EXIT, 300, 0);
        Check.turnDue(h, start, 1, 3);
        Check.due("not yet", h.inbox(4), 0);
        h.steps(1);
        Check.mail(h, 4, 0, 3, 50, 6 * 256 + 44, 0, 0);
        Check.due("one answer", h.inbox(4), 1);
        Check.due("free from then on", h.user(6, 0), 0);
        h.steps(24);
        start = Check.calm(h);
        h.call(5, Check.EXIT, 1, 0);
        Check.turnDone(h, start, 1, 3);
        Check.due("a parent that does not is not", h.inbox(4), 0);
        Check.due("it is waited for", h.user(5, 0), 2);
    }

    private static void killerIsAnswered() {
        Check.sentence("who KILLS is answered");
        ServerHouse h = withChildren(1);
        int start = Check.calm(h);
        h.call(4, Check.KILL, 5, 0);
        Check.turnDue(h, start, 1, 3);
        Check.due("not yet", h.inbox(4), 0);
        h.steps(1);
        Check.mail(h, 4, 0, 3, 50, 0, 0, 0);
        Check.due("one answer", h.inbox(4), 1);
        Check.due("the child is waited for", h.user(5, 0), 2);
    }

    private static void callInHandIsDone() {
        Check.sentence("(A CALL that 2 has in hand is done as ever; the answer is DEAD.)");
        ServerHouse h = Check.withNumbers(1);
        Check.asked(h, 4, Check.FORK, 0, 0, 5);
        int start = Check.calm(h);
        h.call(5, Check.WRITE, 0, 66);
        h.call(4, Check.KILL, 5, 0);
        Check.turnDone(h, start, 0, 3);
        Check.due("it lives no more", h.user(5, 0), 2);
        Check.due("2 has its call in hand", h.count(6), 1);
        Check.mail(h, 2, 0, 3, 31, 5);
        Check.turnDue(h, start, 4, 2);
        int passed = h.count(13);
        Check.due("its descriptor is there still", h.descriptor(5, 0, 1), 1);
        Check.due("31 stays while 2 waits", h.message(2, 0, 1), 31);
        h.steps(1);
        Check.due("the size", h.file(0, 0), 2);
        Check.due("the place", h.descriptor(5, 0, 1), 2);
        Check.due("the number", h.disk(0, 1), 66);
        Check.due("the answer went to nobody", h.count(13), passed);
        Check.due("and is not with 2 any more", h.count(6), 0);
        Check.turnDone(h, start, 5, 2);
        Check.due("now 31 is taken", h.user(5, 6), 0);
        h.until(4, 100);
        Check.due("who killed is answered", h.user(4, 2), 0);
        Check.due("nobody else was", h.user(5, 3), 0);
    }
}
