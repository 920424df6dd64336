/** Terms 2 of the document, sentence by sentence: users, and the calls to the process server. */
public final class ProcessCallEdgesTest {
    public static void main(String[] args) {
        fourLivesAtFirst();
        whoMayCall();
        callGoesAtOnce();
        answerEndsTheCall();
        forkTakesTheLeast();
        forkCopiesDescriptors();
        forkTellsNoAnswer();
        forkWithoutAFreeOne();
        exitCodes();
        nobodyAnswersAnExit();
        waitForTheLeast();
        waitWithoutChildren();
        waitUntilOneEnds();
        kill();
        killOfNoChild();
        parent();
        whoEndsHasNothing();
        childrenOfOneThatEnds();
        endWithAndWithoutParent();
        userFourNeverLivesAgain();
        Check.end();
    }

    private static ServerHouse withChildren(int children) {
        ServerHouse h = new ServerHouse();
        for (int i = 0; i < children; i++) {
            Check.asked(h, 4, Check.FORK, 0, 0, 5 + i);
        }
        return h;
    }

    private static void exit(ServerHouse h, int u, int code) {
        Check.due("exit of " + u, h.call(u, Check.EXIT, code, 0), 0);
        h.steps(36);
    }

    private static void fourLivesAtFirst() {
        Check.sentence("4 lives at first.");
        ServerHouse h = new ServerHouse();
        for (int u = 4; u <= 11; u++) {
            Check.due("user(" + u + ", 0)", h.user(u, 0), u == 4 ? 1 : 0);
        }
        Check.due("users that live", h.count(12), 1);
    }

    private static void whoMayCall() {
        Check.sentence("One that lives and has no CALL may CALL");
        ServerHouse h = withChildren(2);
        int start = Check.calm(h);
        Check.due("it lives", h.call(5, Check.PARENT, 0, 0), 0);
        Check.due("it has a call", h.call(5, Check.PARENT, 0, 0), 2);
        Check.due("another one has none", h.call(6, Check.PARENT, 0, 0), 0);
        Check.due("that one never lived", h.call(7, Check.PARENT, 0, 0), 1);
        Check.turnDue(h, start, 0, 5);
        Check.due("its answer is there, but not taken", h.call(5, Check.PARENT, 0, 0), 2);
        h.steps(1);
        Check.due("it has no call now", h.call(5, Check.PARENT, 0, 0), 0);
    }

    private static void callGoesAtOnce() {
        Check.sentence("the message (its kind, a, b) goes to its server at once");
        for (int kind = 1; kind <= 12; kind++) {
            ServerHouse h = new ServerHouse();
            Check.due("call", h.call(4, kind, Integer.MIN_VALUE, Integer.MAX_VALUE), 0);
            Check.mail(h, kind <= 7 ? 2 : 3, 0, 4, kind, Integer.MIN_VALUE, Integer.MAX_VALUE, 0);
            Check.due("the other server's", h.inbox(kind <= 7 ? 3 : 2), 0);
            Check.due("steps", h.count(0), 0);
        }
    }

    private static void answerEndsTheCall() {
        Check.sentence("In its TURN a USER takes the first message of its INBOX: the answer: it has no CALL then.");
        ServerHouse h = new ServerHouse();
        h.call(4, Check.PARENT, 0, 0);
        Check.turnDue(h, 0, 0, 4);
        Check.due("a call", h.user(4, 1), 1);
        Check.due("no answer came", h.user(4, 3), 0);
        Check.due("it is in the inbox", h.inbox(4), 1);
        h.steps(1);
        Check.due("no call", h.user(4, 1), 0);
        Check.due("an answer came", h.user(4, 3), 1);
        Check.due("the inbox is empty", h.inbox(4), 0);
    }

    private static void forkTakesTheLeast() {
        Check.sentence("8 FORK: the least USER of 5 .. 11 that never lived or is free lives .. its number");
        ServerHouse h = withChildren(3);
        exit(h, 5, 1);
        exit(h, 6, 2);
        Check.asked(h, 4, Check.WAIT, 0, 0, 5 * 256 + 1);
        Check.asked(h, 4, Check.WAIT, 0, 0, 6 * 256 + 2);
        Check.asked(h, 7, Check.FORK, 0, 0, 5);
        Check.due("its parent who called", h.user(5, 4), 7);
        Check.asked(h, 4, Check.FORK, 0, 0, 6);
        Check.asked(h, 4, Check.FORK, 0, 0, 8);
        exit(h, 6, 3);
        Check.asked(h, 4, Check.FORK, 0, 0, 9);
        Check.due("6 is waited for, not free", h.user(6, 0), 2);
    }

    private static void forkCopiesDescriptors() {
        Check.sentence("with copies of all descriptors (places, too; from then on each its own)");
        ServerHouse h = Check.withNumbers(2);
        for (int d = 1; d < 4; d++) {
            Check.asked(h, 4, Check.OPEN, 15 - d, 0, d);
        }
        Check.asked(h, 4, Check.CLOSE, 2, 0, 0);
        Check.asked(h, 4, Check.FORK, 0, 0, 5);
        for (int d = 0; d < 4; d++) {
            Check.due("file of " + d, h.descriptor(5, d, 0), h.descriptor(4, d, 0));
            Check.due("place of " + d, h.descriptor(5, d, 1), h.descriptor(4, d, 1));
        }
        Check.due("how many", h.user(5, 6), 3);
        Check.due("a place that is not 0", h.descriptor(5, 0, 1), 2);
        Check.asked(h, 4, Check.SEEK, 0, 1, 0);
        Check.due("the child's place stays", h.descriptor(5, 0, 1), 2);
        Check.asked(h, 5, Check.SEEK, 0, 0, 0);
        Check.due("the parent's place stays", h.descriptor(4, 0, 1), 1);
        Check.asked(h, 5, Check.CLOSE, 3, 0, 0);
        Check.due("the parent has it open still", h.descriptor(4, 3, 0), 12);
        Check.asked(h, 4, Check.CLOSE, 1, 0, 0);
        Check.due("the child has that open still", h.descriptor(5, 1, 0), 14);
    }

    private static void forkTellsNoAnswer() {
        Check.sentence("lives, with copies of all descriptors .., no answer");
        ServerHouse h = withChildren(1);
        h.steps(24);
        Check.due("the child's answers", h.user(5, 3), 0);
        Check.due("its latest", h.user(5, 2), 0);
        Check.due("its inbox", h.inbox(5), 0);
        Check.due("its call", h.user(5, 1), 0);
    }

    private static void forkWithoutAFreeOne() {
        Check.sentence("-9 there is none");
        ServerHouse h = withChildren(6);
        Check.asked(h, 4, Check.FORK, 0, 0, 11);
        Check.asked(h, 4, Check.FORK, 0, 0, -9);
        Check.asked(h, 11, Check.FORK, 0, 0, -9);
        Check.due("users that live", h.count(12), 8);
        exit(h, 11, 0);
        Check.asked(h, 4, Check.FORK, 0, 0, -9);
        Check.asked(h, 4, Check.WAIT, 0, 0, 11 * 256);
        Check.asked(h, 4, Check.FORK, 0, 0, 11);
        Check.asked(h, 4, Check.FORK, 0, 0, -9);
    }

    private static void exitCodes() {
        Check.sentence("9 EXIT a: it ends with code a % 256 (from 0 on)");
        int[] given = {0, 1, 255, 256, 257, 511, 512, -1, -255, -256, -257, Integer.MAX_VALUE, Integer.MIN_VALUE};
        int[] codes = {0, 1, 255, 0, 1, 255, 0, 255, 1, 0, 255, 255, 0};
        for (int i = 0; i < given.length; i++) {
            ServerHouse h = withChildren(1);
            exit(h, 5, given[i]);
            Check.due("code of " + given[i], h.user(5, 5), codes[i]);
            Check.asked(h, 4, Check.WAIT, 0, 0, 5 * 256 + codes[i]);
        }
    }

    private static void nobodyAnswersAnExit() {
        Check.sentence("nobody answers");
        ServerHouse h = withChildren(1);
        int passed = h.count(13);
        exit(h, 5, 1);
        h.steps(24);
        Check.due("answers", h.user(5, 3), 0);
        Check.due("the call, 31, 32", h.count(13), passed + 3);
        Check.due("the parent's answers", h.user(4, 3), 1);
    }

    private static void waitForTheLeast() {
        Check.sentence("10 WAIT: of its children that ended the least: 256 * number + code; that is free from then on");
        ServerHouse h = withChildren(7);
        exit(h, 11, 255);
        exit(h, 7, 0);
        exit(h, 9, 3);
        Check.asked(h, 4, Check.WAIT, 0, 0, 7 * 256);
        Check.due("free", h.user(7, 0), 0);
        Check.due("waited for still", h.user(9, 0), 2);
        exit(h, 8, 4);
        Check.asked(h, 4, Check.WAIT, 0, 0, 8 * 256 + 4);
        Check.asked(h, 4, Check.WAIT, 0, 0, 9 * 256 + 3);
        Check.asked(h, 4, Check.WAIT, 0, 0, 11 * 256 + 255);
        Check.due("free", h.user(11, 0), 0);
    }

    private static void waitWithoutChildren() {
        Check.sentence("-10 it has no children");
        ServerHouse h = new ServerHouse();
        Check.asked(h, 4, Check.WAIT, 0, 0, -10);
        Check.asked(h, 4, Check.FORK, 0, 0, 5);
        Check.asked(h, 5, Check.WAIT, 0, 0, -10);
        Check.asked(h, 5, Check.FORK, 0, 0, 6);
        exit(h, 5, 1);
        Check.asked(h, 4, Check.WAIT, 0, 0, 5 * 256 + 1);
        Check.asked(h, 4, Check.WAIT, 0, 0, -10);
        Check.due("a child's child is none of it", h.user(6, 0), 1);
    }

    private static void waitUntilOneEnds() {
        Check.sentence("else it is answered so when one ends");
        ServerHouse h = withChildren(3);
        h.call(4, Check.WAIT, 0, 0);
        Check.due("nobody ends", h.until(4, 5000), 5000);
        Check.due("it is no message in hand: others are served", Check.ask(h, 5, Check.PARENT, 0, 0), 4);
        exit(h, 7, 77);
        Check.due("its answer", h.user(4, 2), 7 * 256 + 77);
        Check.due("it has no call", h.user(4, 1), 0);
        Check.due("free from then on", h.user(7, 0), 0);
        exit(h, 6, 66);
        Check.due("it waits no more: that one stays", h.user(6, 0), 2);
    }

    private static void kill() {
        Check.sentence("11 KILL a: a child of it that lives ends with code 255: 0");
        ServerHouse h = withChildren(7);
        Check.asked(h, 4, Check.KILL, 5, 0, 0);
        Check.asked(h, 4, Check.KILL, 11, 0, 0);
        Check.due("ended", h.user(5, 0), 2);
        Check.due("its code", h.user(5, 5), 255);
        Check.due("ended", h.user(11, 0), 2);
        Check.due("the others live", h.count(12), 6);
        Check.asked(h, 4, Check.WAIT, 0, 0, 5 * 256 + 255);
        Check.asked(h, 4, Check.WAIT, 0, 0, 11 * 256 + 255);
    }

    private static void killOfNoChild() {
        Check.sentence("-11 it is none");
        ServerHouse h = withChildren(2);
        Check.asked(h, 5, Check.FORK, 0, 0, 7);
        exit(h, 6, 1);
        int[] none = {4, 6, 7, 8, 11, 0, 1, 2, 3, -1, 12, Integer.MIN_VALUE, Integer.MAX_VALUE};
        for (int a : none) {
            Check.asked(h, 4, Check.KILL, a, 0, -11);
        }
        Check.asked(h, 5, Check.KILL, 4, 0, -11);
        Check.asked(h, 5, Check.KILL, 5, 0, -11);
        Check.asked(h, 7, Check.KILL, 5, 0, -11);
        Check.asked(h, 4, Check.WAIT, 0, 0, 6 * 256 + 1);
        Check.asked(h, 4, Check.KILL, 6, 0, -11);
        Check.due("all live that did", h.count(12), 3);
        Check.due("and the driver", h.count(3), 1);
    }

    private static void parent() {
        Check.sentence("12 PARENT: the parent, 0 without one");
        ServerHouse h = withChildren(1);
        Check.asked(h, 5, Check.FORK, 0, 0, 6);
        Check.asked(h, 4, Check.PARENT, 0, 0, 0);
        Check.asked(h, 5, Check.PARENT, 0, 0, 4);
        Check.asked(h, 6, Check.PARENT, 0, 0, 5);
        exit(h, 5, 0);
        Check.asked(h, 6, Check.PARENT, 0, 0, 0);
    }

    private static void whoEndsHasNothing() {
        Check.sentence("Who ends: has no CALL, no descriptors");
        ServerHouse h = new ServerHouse();
        for (int d = 0; d < 4; d++) {
            Check.asked(h, 4, Check.OPEN, d, 0, d);
        }
        Check.asked(h, 4, Check.FORK, 0, 0, 5);
        Check.asked(h, 5, Check.FORK, 0, 0, 6);
        h.call(5, Check.WAIT, 0, 0);
        h.steps(24);
        Check.due("it has a call", h.user(5, 1), 1);
        Check.due("it has descriptors", h.user(5, 6), 4);
        Check.asked(h, 4, Check.KILL, 5, 0, 0);
        Check.due("no call", h.user(5, 1), 0);
        Check.due("until it has none", h.until(5, 100), 0);
        Check.due("no descriptors", h.user(5, 6), 0);
        Check.due("the others' stay", h.user(4, 6) + h.user(6, 6), 8);
        Check.asked(h, 4, Check.WAIT, 0, 0, 5 * 256 + 255);
        Check.asked(h, 6, Check.CLOSE, 3, 0, 0);
        Check.asked(h, 6, Check.FORK, 0, 0, 5);
        Check.due("a new life has those of its parent alone", h.user(5, 6), 3);
        Check.due("and no call", h.user(5, 1), 0);
    }

    private static void childrenOfOneThatEnds() {
        Check.sentence("its children have no parent from now on, those that ended are free");
        ServerHouse h = withChildren(1);
        Check.asked(h, 5, Check.FORK, 0, 0, 6);
        Check.asked(h, 5, Check.FORK, 0, 0, 7);
        Check.asked(h, 4, Check.FORK, 0, 0, 8);
        exit(h, 6, 1);
        exit(h, 8, 2);
        exit(h, 5, 3);
        Check.due("one that ended is free", h.user(6, 0), 0);
        Check.due("without a parent", h.user(6, 4), -1);
        Check.due("one that lives does so", h.user(7, 0), 1);
        Check.due("without a parent", h.user(7, 4), -1);
        Check.due("another's child is waited for", h.user(8, 0), 2);
        Check.due("it has its parent", h.user(8, 4), 4);
        Check.asked(h, 7, Check.FORK, 0, 0, 6);
        Check.asked(h, 4, Check.KILL, 7, 0, -11);
    }

    private static void endWithAndWithoutParent() {
        Check.sentence("It is waited for by its parent; without one it is free.");
        ServerHouse h = withChildren(1);
        Check.asked(h, 5, Check.FORK, 0, 0, 6);
        exit(h, 5, 9);
        Check.due("with one", h.user(5, 0), 2);
        Check.due("its parent", h.user(5, 4), 4);
        exit(h, 6, 8);
        Check.due("without one", h.user(6, 0), 0);
        Check.asked(h, 4, Check.WAIT, 0, 0, 5 * 256 + 9);
        Check.asked(h, 4, Check.WAIT, 0, 0, -10);
    }

    private static void userFourNeverLivesAgain() {
        Check.sentence("(User 4 has none, and never lives again.)");
        ServerHouse h = withChildren(1);
        Check.due("its parent", h.user(4, 4), -1);
        exit(h, 4, 4);
        Check.due("it is free", h.user(4, 0), 0);
        for (int child = 6; child <= 11; child++) {
            Check.asked(h, 5, Check.FORK, 0, 0, child);
        }
        Check.asked(h, 5, Check.FORK, 0, 0, -9);
        Check.due("it is free still", h.user(4, 0), 0);
        Check.due("it may not call", h.call(4, Check.PARENT, 0, 0), 1);
        Check.due("users that live", h.count(12), 7);
    }
}
