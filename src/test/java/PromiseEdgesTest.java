/** Promises 1 to 14 of the document, sentence by sentence: what each call refuses, and its edges. */
public final class PromiseEdgesTest {
    public static void main(String[] args) {
        atMost512Calls();
        newObject();
        callByWhom();
        callWithACall();
        callOfNoKind();
        callToAFullInbox();
        callRefusesInOrder();
        stepsOfAnotherNumber();
        stepsInAll();
        untilNoCall();
        untilRefused();
        crash();
        hang();
        forceRefused();
        forceNeverDeadByALife();
        userRefused();
        userStates();
        userAnswersOfAllLives();
        userParentAndCode();
        descriptorRefused();
        fileRefused();
        fileBlocks();
        diskRefused();
        inboxRefused();
        messageRefused();
        countRefused();
        countsOfTheDriver();
        countsOfWaiting();
        countsOfFilesAndUsers();
        countsOfMessages();
        Check.end();
    }

    private static void atMost512Calls() {
        Check.sentence("An object is used for at most 512 calls after it has been made");
        ServerHouse h = new ServerHouse();
        for (int i = 1; i <= 512; i++) {
            Check.due("call " + i, h.steps(20000), 20000 * i);
        }
        ServerHouse g = new ServerHouse();
        for (int i = 1; i <= 511; i++) {
            g.call(4, 1 + i % 12, i % 5, i);
        }
        Check.due("the 512th", g.user(4, 0), 1);
    }

    private static void newObject() {
        Check.sentence("All live but USERS 5 .. 11; the disk is all 0, no file.");
        ServerHouse h = new ServerHouse();
        for (int part = 0; part < 12; part++) {
            Check.due("may be forced, so lives: " + part, h.force(part, part) != -1, part <= 4);
        }
        Check.due("the driver", h.count(3), 1);
        for (int i = 0; i < 192; i++) {
            Check.due("disk(" + i / 8 + ", " + i % 8 + ")", h.disk(i / 8, i % 8), 0);
        }
        for (int a = 0; a < 16; a++) {
            Check.due("file(" + a + ", 0)", h.file(a, 0), -1);
        }
        Check.due("files", h.count(10), 0);
        Check.due("blocks that are free", h.count(11), 24);
    }

    private static void callByWhom() {
        Check.sentence("call: 1: it does not live, or there is none such");
        ServerHouse h = new ServerHouse();
        Check.asked(h, 4, Check.FORK, 0, 0, 5);
        int[] none = {-1, 0, 1, 2, 3, 6, 11, 12, Integer.MIN_VALUE, Integer.MAX_VALUE};
        for (int u : none) {
            Check.due("call by " + u, h.call(u, Check.PARENT, 0, 0), 1);
        }
        Check.asked(h, 4, Check.KILL, 5, 0, 0);
        Check.due("by one that ended", h.call(5, Check.PARENT, 0, 0), 1);
        Check.asked(h, 4, Check.WAIT, 0, 0, 5 * 256 + 255);
        Check.due("by one that is free", h.call(5, Check.PARENT, 0, 0), 1);
    }

    private static void callWithACall() {
        Check.sentence("call: 2: it has a CALL");
        ServerHouse h = new ServerHouse();
        Check.due("the first", h.call(4, Check.PARENT, 0, 0), 0);
        Check.due("the second", h.call(4, Check.PARENT, 0, 0), 2);
        Check.due("it did not go", h.inbox(3), 1);
        h.until(4, 12);
        Check.due("after the answer", h.call(4, Check.PARENT, 0, 0), 0);
    }

    private static void callOfNoKind() {
        Check.sentence("call: 3: no such kind (1 .. 12)");
        ServerHouse h = new ServerHouse();
        int[] none = {0, 13, -1, 20, 21, 22, 30, 31, 32, 40, 41, 42, 50, Integer.MIN_VALUE, Integer.MAX_VALUE};
        for (int kind : none) {
            Check.due("call of kind " + kind, h.call(4, kind, 0, 0), 3);
        }
        Check.due("it has no call", h.user(4, 1), 0);
        Check.due("nothing went", h.count(13), 0);
        Check.due("kind 1", new ServerHouse().call(4, 1, 0, 0), 0);
        Check.due("kind 12", new ServerHouse().call(4, 12, 0, 0), 0);
    }

    private static void callToAFullInbox() {
        Check.sentence("call: 4: the server's INBOX is FULL");
        int[] servers = {2, 3};
        for (int server : servers) {
            ServerHouse h = new ServerHouse();
            Check.forceTimes(h, 5 - server, server, 11);
            int kind = server == 2 ? Check.SIZE : Check.FORK;
            int other = server == 2 ? Check.FORK : Check.SIZE;
            if (server == 3) {
                Check.forceTimes(h, 4, 3, 1);
            } else {
                Check.forceTimes(h, 0, 2, 1);
            }
            Check.due("full", h.call(4, kind, 0, 0), 4);
            Check.due("it has no call", h.user(4, 1), 0);
            Check.due("the inbox stays", h.inbox(server), 12);
            Check.due("the last one there is forced", h.message(server, 11, 1), 0);
            Check.due("the other server has room", h.call(4, other, 0, 0), 0);
        }
        ServerHouse g = new ServerHouse();
        Check.forceTimes(g, 3, 2, 11);
        Check.due("the twelfth place", g.call(4, Check.OPEN, 0, 0), 0);
    }

    private static void callRefusesInOrder() {
        Check.sentence("1: it does not live .. 2: it has a CALL, 3: no such kind (1 .. 12), 4: the server's INBOX is FULL");
        ServerHouse h = new ServerHouse();
        Check.due("1 ahead of 3", h.call(5, 13, 0, 0), 1);
        Check.forceTimes(h, 3, 2, 12);
        Check.due("1 ahead of 4", h.call(5, Check.OPEN, 0, 0), 1);
        Check.due("3 with a full inbox", h.call(4, 0, 0, 0), 3);
        Check.due("a call", h.call(4, Check.PARENT, 0, 0), 0);
        Check.due("2 ahead of 3", h.call(4, 13, 0, 0), 2);
        Check.due("2 ahead of 4", h.call(4, Check.OPEN, 0, 0), 2);
    }

    private static void stepsOfAnotherNumber() {
        Check.sentence("n STEPS (0 .. 20000) .. NONE for another n");
        ServerHouse h = new ServerHouse();
        int[] none = {-1, 20001, 40000, Integer.MIN_VALUE, Integer.MAX_VALUE};
        for (int n : none) {
            Check.due("steps(" + n + ")", h.steps(n), -1);
        }
        Check.due("no step was done", h.count(0), 0);
        Check.due("steps(0)", h.steps(0), 0);
        Check.due("steps(20000)", h.steps(20000), 20000);
    }

    private static void stepsInAll() {
        Check.sentence("the number of STEPS in all");
        ServerHouse h = new ServerHouse();
        h.call(4, Check.PARENT, 0, 0);
        Check.due("steps(3)", h.steps(3), 3);
        Check.due("until", h.until(4, 100), 2);
        Check.due("steps(0)", h.steps(0), 5);
        Check.due("steps(1)", h.steps(1), 6);
        Check.due("count(0)", h.count(0), 6);
    }

    private static void untilNoCall() {
        Check.sentence("STEPS until a USER has no CALL, n (0 .. 20000) at most: how many were done");
        ServerHouse h = new ServerHouse();
        Check.due("without a call", h.until(4, 20000), 0);
        Check.due("one that never lived has none", h.until(11, 20000), 0);
        h.call(4, Check.PARENT, 0, 0);
        Check.due("n is 0", h.until(4, 0), 0);
        Check.due("n is 4", h.until(4, 4), 4);
        Check.due("n is more than it needs", h.until(4, 20000), 1);
        Check.due("another one's call does not matter", h.until(5, 20000), 0);
        Check.due("steps", h.count(0), 5);
        Check.asked(h, 4, Check.FORK, 0, 0, 5);
        h.call(4, Check.WAIT, 0, 0);
        Check.due("n is what it may do at most", h.until(4, 20000), 20000);
    }

    private static void untilRefused() {
        Check.sentence("NONE: no such USER, another n");
        ServerHouse h = new ServerHouse();
        h.call(4, Check.PARENT, 0, 0);
        int[] users = {3, 12, -1, 0, Integer.MIN_VALUE, Integer.MAX_VALUE};
        for (int u : users) {
            Check.due("until(" + u + ", 10)", h.until(u, 10), -1);
        }
        int[] numbers = {-1, 20001, Integer.MIN_VALUE, Integer.MAX_VALUE};
        for (int n : numbers) {
            Check.due("until(4, " + n + ")", h.until(4, n), -1);
            Check.due("until(5, " + n + "), which has no call", h.until(5, n), -1);
        }
        Check.due("no step was done", h.count(0), 0);
    }

    private static void crash() {
        Check.sentence("The DRIVER crashes: true; false: it doesn't live.");
        ServerHouse h = new ServerHouse();
        Check.due("it lives", h.crash(), true);
        Check.due("it doesn't", h.crash(), false);
        Check.due("crashes", h.count(8), 1);
        Check.stepTo(h, 25);
        h.hang();
        Check.due("one that hangs lives", h.crash(), true);
        Check.due("crashes", h.count(8), 2);
        Check.due("no step was done for it", h.count(0), 25);
    }

    private static void hang() {
        Check.sentence("The DRIVER hangs: true; false: it doesn't live, or hangs.");
        ServerHouse h = new ServerHouse();
        Check.due("it lives", h.hang(), true);
        Check.due("it hangs", h.hang(), false);
        Check.due("on", h.count(3), 2);
        h.crash();
        Check.due("it doesn't live", h.hang(), false);
        Check.due("nor does it hang then", h.count(3), 0);
        Check.stepTo(h, 25);
        Check.due("a new life does not", h.count(3), 1);
        Check.due("but may", h.hang(), true);
    }

    private static void forceRefused() {
        Check.sentence("NONE: no such parts, the first doesn't live");
        ServerHouse h = new ServerHouse();
        int[] none = {-1, 12, Integer.MIN_VALUE, Integer.MAX_VALUE};
        for (int p : none) {
            Check.due("force(" + p + ", 2)", h.force(p, 2), -1);
            Check.due("force(4, " + p + ")", h.force(4, p), -1);
            Check.due("force(" + p + ", " + p + ")", h.force(p, p), -1);
        }
        Check.due("one that never lived", h.force(5, 2), -1);
        Check.due("to what it may not tell", h.force(11, 0), -1);
        h.crash();
        Check.due("a driver that crashed", h.force(1, 0), -1);
        Check.due("let through", h.count(13), 0);
        Check.due("forbidden", h.count(9), 0);
        Check.due("the last part: DEAD", h.force(2, 11), 2);
        Check.due("the first part: FORBIDDEN", h.force(2, 0), 1);
        Check.stepTo(h, 25);
        h.hang();
        Check.due("one that hangs lives", h.force(1, 0), 0);
    }

    private static void forceNeverDeadByALife() {
        Check.sentence("what the core tells (0 .. 3; DEAD never by a LIFE, FULL: it is lost)");
        ServerHouse h = new ServerHouse();
        h.crash();
        Check.stepTo(h, 25);
        Check.due("2 was not told of life 2", h.message(2, 0, 1), 42);
        Check.forceTimes(h, 2, 1, 12);
        Check.due("full", h.force(2, 1), 3);
        Check.due("it is lost", h.inbox(1), 12);
        h.steps(12);
        Check.due("one was taken, none came", h.inbox(1), 11);
    }

    private static void userRefused() {
        Check.sentence("NoSuchElementException: none such");
        ServerHouse h = new ServerHouse();
        int[] users = {3, 12, -1, 0, Integer.MIN_VALUE, Integer.MAX_VALUE};
        for (int u : users) {
            for (int what = 0; what <= 6; what++) {
                int w = what;
                Check.missing("user(" + u + ", " + w + ")", () -> h.user(u, w));
            }
        }
        int[] whats = {-1, 7, Integer.MIN_VALUE, Integer.MAX_VALUE};
        for (int w : whats) {
            for (int u = 4; u <= 11; u++) {
                int v = u;
                Check.missing("user(" + v + ", " + w + ")", () -> h.user(v, w));
            }
        }
        Check.due("one that never lived has a parent of NONE", h.user(11, 4), -1);
        Check.due("user(11, 6)", h.user(11, 6), 0);
    }

    private static void userStates() {
        Check.sentence("what 0: 0 it never lived or is free, 1 it lives, 2 it ended and is waited for "
            + "(or 2 was not heard of yet)");
        ServerHouse h = new ServerHouse();
        Check.due("never lived", h.user(5, 0), 0);
        Check.asked(h, 4, Check.FORK, 0, 0, 5);
        Check.due("lives", h.user(5, 0), 1);
        Check.asked(h, 4, Check.KILL, 5, 0, 0);
        Check.due("ended", h.user(5, 0), 2);
        Check.asked(h, 4, Check.WAIT, 0, 0, 5 * 256 + 255);
        Check.due("free", h.user(5, 0), 0);
        int start = Check.calm(h);
        h.call(4, Check.EXIT, 0, 0);
        Check.turnDone(h, start, 0, 3);
        Check.due("2 was not heard of yet", h.user(4, 0), 2);
        Check.turnDone(h, start, 1, 3);
        Check.due("free", h.user(4, 0), 0);
    }

    private static void userAnswersOfAllLives() {
        Check.sentence("2: the latest answer (0 ahead of one), 3: answers that came, both of all lives of that number");
        ServerHouse h = new ServerHouse();
        Check.due("ahead of one", h.user(4, 2), 0);
        Check.due("none came", h.user(4, 3), 0);
        Check.asked(h, 4, Check.FORK, 0, 0, 5);
        Check.asked(h, 5, Check.SIZE, 0, 0, -8);
        Check.asked(h, 4, Check.KILL, 5, 0, 0);
        Check.due("of one that ended", h.user(5, 2), -8);
        Check.asked(h, 4, Check.WAIT, 0, 0, 5 * 256 + 255);
        Check.due("of one that is free", h.user(5, 2), -8);
        Check.asked(h, 4, Check.FORK, 0, 0, 5);
        Check.due("in another life", h.user(5, 2), -8);
        Check.due("how many", h.user(5, 3), 1);
        Check.asked(h, 5, Check.PARENT, 0, 0, 4);
        Check.due("the latest", h.user(5, 2), 4);
        Check.due("how many", h.user(5, 3), 2);
    }

    private static void userParentAndCode() {
        Check.sentence("4: parent (NONE); 5: its code when it ended");
        ServerHouse h = new ServerHouse();
        Check.due("4 has no parent", h.user(4, 4), -1);
        Check.asked(h, 4, Check.FORK, 0, 0, 5);
        Check.due("parent", h.user(5, 4), 4);
        Check.due("code ahead of the end", h.user(5, 5), 0);
        h.call(5, Check.EXIT, 511, 0);
        h.steps(48);
        Check.due("parent of one that ended", h.user(5, 4), 4);
        Check.due("code", h.user(5, 5), 255);
        Check.asked(h, 4, Check.WAIT, 0, 0, 5 * 256 + 255);
        Check.due("code of one that is free", h.user(5, 5), 255);
    }

    private static void descriptorRefused() {
        Check.sentence("Of descriptor d of a USER, what 0: the file, 1: the place; NONE: none such.");
        ServerHouse h = Check.withNumbers(2);
        Check.due("the file", h.descriptor(4, 0, 0), 0);
        Check.due("the place", h.descriptor(4, 0, 1), 2);
        int[] users = {3, 5, 11, 12, -1, Integer.MIN_VALUE, Integer.MAX_VALUE};
        for (int u : users) {
            Check.due("descriptor(" + u + ", 0, 0)", h.descriptor(u, 0, 0), -1);
            Check.due("descriptor(" + u + ", 0, 1)", h.descriptor(u, 0, 1), -1);
        }
        int[] numbers = {-1, 1, 3, 4, Integer.MIN_VALUE, Integer.MAX_VALUE};
        for (int d : numbers) {
            Check.due("descriptor(4, " + d + ", 0)", h.descriptor(4, d, 0), -1);
            Check.due("descriptor(4, " + d + ", 1)", h.descriptor(4, d, 1), -1);
        }
        int[] whats = {-1, 2, Integer.MIN_VALUE, Integer.MAX_VALUE};
        for (int w : whats) {
            Check.due("descriptor(4, 0, " + w + ")", h.descriptor(4, 0, w), -1);
        }
        for (int d = 1; d < 4; d++) {
            Check.asked(h, 4, Check.OPEN, 15, 0, d);
        }
        Check.due("the last file of the last descriptor", h.descriptor(4, 3, 0), 15);
        for (int u = 5; u <= 11; u++) {
            Check.asked(h, 4, Check.FORK, 0, 0, u);
        }
        Check.due("of the last user", h.descriptor(11, 3, 0), 15);
        Check.due("its place", h.descriptor(11, 0, 1), 2);
        Check.due("nobody's behind it", h.descriptor(11, 4, 0), -1);
        Check.due("nor in front of another's", h.descriptor(5, -1, 0), -1);
    }

    private static void fileRefused() {
        Check.sentence("Of file a .. NONE: none such.");
        ServerHouse h = Check.withNumbers(0);
        for (int i = 0; i < 32; i++) {
            Check.write(h, 4, 0, i);
        }
        int[] files = {-1, 1, 15, 16, Integer.MIN_VALUE, Integer.MAX_VALUE};
        for (int a : files) {
            for (int what = 0; what <= 4; what++) {
                Check.due("file(" + a + ", " + what + ")", h.file(a, what), -1);
            }
        }
        int[] whats = {-1, 5, 6, Integer.MIN_VALUE, Integer.MAX_VALUE};
        for (int w : whats) {
            Check.due("file(0, " + w + ")", h.file(0, w), -1);
        }
        Check.asked(h, 4, Check.OPEN, 15, 0, 1);
        Check.due("the last file", h.file(15, 0), 0);
    }

    private static void fileBlocks() {
        Check.sentence("1 .. 4: its blocks, as many as its size has (a new one when that grew)");
        ServerHouse h = Check.withNumbers(0);
        int[] sizes = {0, 1, 8, 9, 16, 17, 24, 25, 32};
        int[] blocks = {0, 1, 1, 2, 2, 3, 3, 4, 4};
        int written = 0;
        for (int i = 0; i < sizes.length; i++) {
            for (; written < sizes[i]; written++) {
                Check.write(h, 4, 0, written);
            }
            for (int b = 1; b <= 4; b++) {
                Check.due("block " + b + " of " + sizes[i], h.file(0, b), b <= blocks[i] ? b - 1 : -1);
            }
        }
        ServerHouse g = Check.withNumbers(8);
        int start = Check.calm(g);
        g.call(4, Check.WRITE, 0, 9);
        Check.turnDone(g, start, 0, 2);
        Check.due("taken", g.count(11), 22);
        Check.due("but the size did not grow yet", g.file(0, 2), -1);
        g.until(4, 100);
        Check.due("now it did", g.file(0, 2), 1);
    }

    private static void diskRefused() {
        Check.sentence("block (0 .. 23), k (0 .. 7); NoSuchElementException: none such");
        ServerHouse h = new ServerHouse();
        int[] blocks = {-1, 24, 25, Integer.MIN_VALUE, Integer.MAX_VALUE};
        for (int b : blocks) {
            Check.missing("disk(" + b + ", 0)", () -> h.disk(b, 0));
            Check.missing("disk(" + b + ", 7)", () -> h.disk(b, 7));
        }
        int[] places = {-1, 8, 9, Integer.MIN_VALUE, Integer.MAX_VALUE};
        for (int k : places) {
            Check.missing("disk(0, " + k + ")", () -> h.disk(0, k));
            Check.missing("disk(5, " + k + ")", () -> h.disk(5, k));
            Check.missing("disk(23, " + k + ")", () -> h.disk(23, k));
        }
        Check.due("disk(0, 0)", h.disk(0, 0), 0);
        Check.due("disk(23, 7)", h.disk(23, 7), 0);
    }

    private static void inboxRefused() {
        Check.sentence("How many messages are in a part's INBOX; NONE: no such part.");
        ServerHouse h = new ServerHouse();
        int[] none = {-1, 12, Integer.MIN_VALUE, Integer.MAX_VALUE};
        for (int p : none) {
            Check.due("inbox(" + p + ")", h.inbox(p), -1);
        }
        for (int i = 0; i <= 12; i++) {
            Check.due("inbox(2)", h.inbox(2), i);
            h.force(3, 2);
        }
        Check.due("inbox(2) with one that was lost", h.inbox(2), 12);
        h.crash();
        Check.due("of a driver that crashed", h.inbox(1), 0);
        Check.due("of one that never lived", h.inbox(11), 0);
    }

    private static void messageRefused() {
        Check.sentence("Of the k-th message in an INBOX (0 the first), what 0: sender, 1: kind, 2 .. 4: its numbers; "
            + "NONE: none such.");
        ServerHouse h = new ServerHouse();
        Check.forceTimes(h, 3, 2, 11);
        h.call(4, Check.SEEK, 71, 72);
        Check.mail(h, 2, 0, 3, 0, 0, 0, 0, -1);
        Check.mail(h, 2, 11, 4, Check.SEEK, 71, 72, 0, -1);
        int[] parts = {-1, 12, Integer.MIN_VALUE, Integer.MAX_VALUE};
        for (int p : parts) {
            Check.due("message(" + p + ", 0, 0)", h.message(p, 0, 0), -1);
        }
        int[] places = {-1, 12, 13, Integer.MIN_VALUE, Integer.MAX_VALUE};
        for (int k : places) {
            for (int what = 0; what <= 4; what++) {
                Check.due("message(2, " + k + ", " + what + ")", h.message(2, k, what), -1);
            }
        }
        int[] whats = {-1, 5, Integer.MIN_VALUE, Integer.MAX_VALUE};
        for (int w : whats) {
            Check.due("message(2, 11, " + w + ")", h.message(2, 11, w), -1);
        }
        Check.due("of an empty inbox", h.message(3, 0, 0), -1);
        h.steps(3);
        Check.mail(h, 2, 10, 4, Check.SEEK, 71, 72, 0);
        Check.due("one fewer", h.message(2, 11, 0), -1);
    }

    private static void countRefused() {
        Check.sentence("NONE for another what");
        ServerHouse h = new ServerHouse();
        int[] none = {-1, 14, 15, Integer.MIN_VALUE, Integer.MAX_VALUE};
        for (int w : none) {
            Check.due("count(" + w + ")", h.count(w), -1);
        }
        Check.due("count(0)", h.count(0), 0);
        Check.due("count(13)", h.count(13), 0);
    }

    private static void countsOfTheDriver() {
        Check.sentence("1: whose TURN is next, 2: the DRIVER's LIFE, 3: 0 it doesn't live, 1 lives, 2 hangs, 4: its arm, "
            + "5: 1 with a job, else 0 .. 8: crashes, those by the KEEPER too");
        ServerHouse h = new ServerHouse();
        for (int i = 0; i < 26; i++) {
            Check.due("whose turn", h.count(1), i % 12);
            h.steps(1);
        }
        Check.due("the first life", h.count(2), 1);
        Check.due("lives", h.count(3), 1);
        h.hang();
        Check.due("hangs", h.count(3), 2);
        Check.stepTo(h, 229);
        Check.due("doesn't live", h.count(3), 0);
        Check.due("the life stays until the next", h.count(2), 1);
        Check.due("a crash by the keeper", h.count(8), 1);
        Check.stepTo(h, 265);
        Check.due("the second life", h.count(2), 2);
        h.crash();
        Check.due("a crash by crash()", h.count(8), 2);
        h.crash();
        Check.due("none of the dead", h.count(8), 2);
    }

    private static void countsOfWaiting() {
        Check.sentence("6: 1 if the FILE SERVER waits for the DRIVER, 7: if the PROCESS SERVER waits for it");
        ServerHouse h = Check.withNumbers(1);
        int start = Check.calm(h);
        h.call(4, Check.WRITE, 0, 2);
        Check.turnDue(h, start, 0, 2);
        Check.due("not yet", h.count(6), 0);
        h.steps(1);
        Check.due("it waits", h.count(6), 1);
        Check.due("the other one does not", h.count(7), 0);
        Check.turnDue(h, start, 4, 2);
        Check.due("still", h.count(6), 1);
        h.steps(1);
        Check.due("no more", h.count(6), 0);
        start = Check.calm(h);
        h.call(4, Check.FORK, 0, 0);
        Check.turnDue(h, start, 0, 3);
        Check.due("not yet", h.count(7), 0);
        h.steps(1);
        Check.due("it waits", h.count(7), 1);
        Check.due("the other one does not", h.count(6), 0);
        Check.turnDue(h, start, 1, 3);
        Check.due("still", h.count(7), 1);
        h.steps(1);
        Check.due("no more", h.count(7), 0);
        h.until(4, 100);
        h.call(4, Check.WAIT, 0, 0);
        h.steps(24);
        Check.due("a user's waiting is none of it", h.count(7), 0);
    }

    private static void countsOfFilesAndUsers() {
        Check.sentence("10: files, 11: blocks that are free, 12: USERS that live");
        ServerHouse h = new ServerHouse();
        for (int a = 0; a < 4; a++) {
            Check.due("files", h.count(10), a);
            Check.asked(h, 4, Check.OPEN, a, 0, a);
        }
        Check.due("blocks that are free", h.count(11), 24);
        Check.asked(h, 4, Check.WRITE, 0, 1, 0);
        Check.due("one fewer", h.count(11), 23);
        for (int u = 5; u <= 11; u++) {
            Check.due("users that live", h.count(12), u - 4);
            Check.asked(h, 4, Check.FORK, 0, 0, u);
        }
        Check.due("all", h.count(12), 8);
        Check.asked(h, 4, Check.KILL, 8, 0, 0);
        Check.due("one that ended does not", h.count(12), 7);
        h.call(4, Check.EXIT, 0, 0);
        h.steps(36);
        Check.due("nor 4", h.count(12), 6);
    }

    private static void countsOfMessages() {
        Check.sentence("9: messages FORBIDDEN so far .. 13: messages the core let through");
        ServerHouse h = new ServerHouse();
        Check.due("forbidden", h.force(4, 1), 1);
        Check.due("dead", h.force(2, 5), 2);
        Check.forceTimes(h, 4, 3, 12);
        Check.due("full", h.force(4, 3), 3);
        Check.due("no such part", h.force(4, 12), -1);
        Check.due("a call to a full one", h.call(4, Check.FORK, 0, 0), 4);
        Check.due("a call", h.call(4, Check.OPEN, 0, 0), 0);
        Check.due("forbidden", h.count(9), 1);
        Check.due("let through", h.count(13), 13);
        h.steps(5);
        Check.due("an answer too", h.count(13), 14);
    }
}
