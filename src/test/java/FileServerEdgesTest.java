/** Terms 3 of the document, sentence by sentence: the file server's turn. */
public final class FileServerEdgesTest {
    public static void main(String[] args) {
        firstMessage();
        othersStayWhileItWaits();
        doneInThatTurn();
        blocksOfEight();
        leastFreeBlock();
        readFetches();
        writeOfANewBlock();
        writeOfAnOldBlock();
        changesAsTheLast();
        removedBlocksAreFree();
        goesOnInThisTurn();
        newsWhileItDoesNotWait();
        newsWhileItWaits();
        newsBetweenFetchAndStore();
        numbersOfALifeBefore();
        newsOfADeadDriver();
        newsOfAnotherLife();
        copiesAndCloses();
        Check.end();
    }

    private static void firstMessage() {
        Check.sentence("THE FILE SERVER's TURN: the first message of its INBOX");
        ServerHouse h = new ServerHouse();
        Check.asked(h, 4, Check.FORK, 0, 0, 5);
        int start = Check.calm(h);
        h.call(5, Check.OPEN, 5, 0);
        h.call(4, Check.OPEN, 4, 0);
        Check.turnDone(h, start, 0, 2);
        Check.due("the first is done", h.file(5, 0), 0);
        Check.due("the other one is not", h.file(4, 0), -1);
        Check.mail(h, 2, 0, 4, Check.OPEN);
        Check.turnDone(h, start, 1, 2);
        Check.due("now it is", h.file(4, 0), 0);
        int passed = h.count(13);
        Check.turnDone(h, start, 3, 2);
        Check.due("without a message nothing", h.count(13), passed);
    }

    /** A house whose file server waits for a driver that hangs, from the first round on from the start. */
    private static ServerHouse withWaitingServer() {
        ServerHouse h = new ServerHouse();
        Check.asked(h, 4, Check.OPEN, 0, 0, 0);
        Check.asked(h, 4, Check.FORK, 0, 0, 5);
        Check.asked(h, 4, Check.FORK, 0, 0, 6);
        int start = Check.calm(h);
        h.hang();
        h.call(4, Check.WRITE, 0, 9);
        Check.turnDone(h, start, 0, 2);
        Check.due("it waits", h.count(6), 1);
        Check.mail(h, 1, 0, 2, 21, 0, 0, 0);
        return h;
    }

    private static void othersStayWhileItWaits() {
        Check.sentence("but while it waits for the DRIVER the first one from 0, 1, or of kind 0 (others stay); "
            + "without one nothing");
        ServerHouse h = withWaitingServer();
        int start = h.count(0) - 3;
        h.call(5, Check.OPEN, 7, 0);
        h.call(6, Check.FORK, 0, 0);
        Check.turnDone(h, start, 2, 2);
        Check.due("a call and a 30 stay", h.inbox(2), 2);
        Check.mail(h, 2, 0, 5, Check.OPEN, 7, 0, 0);
        Check.mail(h, 2, 1, 3, 30, 6, 7, 0);
        Check.due("not done", h.file(7, 0), -1);
        Check.forceTimes(h, 3, 2, 1);
        Check.forceTimes(h, 5, 2, 1);
        Check.forceTimes(h, 1, 2, 1);
        int[] senders = {3, 5, 1};
        for (int i = 0; i < senders.length; i++) {
            Check.mail(h, 2, 2, senders[i], 0);
            Check.turnDone(h, start, 3 + i, 2);
            Check.due("one of kind 0 was taken", h.inbox(2), 4 - i);
            Check.mail(h, 2, 0, 5, Check.OPEN);
            Check.mail(h, 2, 1, 3, 30);
        }
        h.crash();
        Check.turnDone(h, start, 8, 0);
        Check.mail(h, 2, 2, 0, 42, 2);
        Check.turnDone(h, start, 8, 2);
        Check.due("one from 0 was taken", h.inbox(2), 2);
        Check.due("it went out anew", h.message(1, h.inbox(1) - 1, 1), 21);
        h.until(4, 100);
        Check.due("one from 1 ended that", h.user(4, 2), 0);
        h.until(5, 100);
        Check.due("then the call", h.user(5, 2), 1);
        h.until(6, 100);
        Check.due("and the fork", h.user(6, 2), 7);
    }

    private static void doneAtOnce(ServerHouse h, int kind, int a, int b, int want) {
        int start = Check.calm(h);
        h.call(4, kind, a, b);
        Check.turnDone(h, start, 0, 2);
        Check.due("it does not wait for the driver with " + kind, h.count(6), 0);
        Check.due("the driver's inbox", h.inbox(1), 0);
        Check.mail(h, 4, 0, 2, 50, want, 0, 0);
        h.until(4, 12);
    }

    private static void doneInThatTurn() {
        Check.sentence("what needs no block is done and answered in that TURN");
        ServerHouse h = Check.withNumbers(32);
        doneAtOnce(h, Check.OPEN, 1, 0, 1);
        doneAtOnce(h, Check.SEEK, 0, 32, 0);
        doneAtOnce(h, Check.SEEK, 0, 33, -1);
        doneAtOnce(h, Check.READ, 0, 0, -5);
        doneAtOnce(h, Check.WRITE, 0, 0, -4);
        doneAtOnce(h, Check.READ, 2, 0, -8);
        doneAtOnce(h, Check.WRITE, 2, 0, -8);
        doneAtOnce(h, Check.SIZE, 0, 0, 32);
        doneAtOnce(h, Check.CLOSE, 0, 0, 0);
        doneAtOnce(h, Check.REMOVE, 0, 0, 0);
    }

    private static void blocksOfEight() {
        Check.sentence("Block i of a file holds the numbers 8 * i to 8 * i + 7");
        int[] places = {0, 7, 8, 15, 16, 23, 24, 31};
        for (int p : places) {
            ServerHouse h = Check.withNumbers(0);
            for (int i = 0; i < 32; i++) {
                Check.write(h, 4, 0, 100 + i);
            }
            Check.due("number " + p + " on the disk", h.disk(p / 8, p % 8), 100 + p);
            Check.asked(h, 4, Check.SEEK, 0, p, 0);
            int start = Check.calm(h);
            h.call(4, Check.READ, 0, 0);
            Check.turnDone(h, start, 0, 2);
            Check.mail(h, 1, 0, 2, 20, p / 8, 0, 0);
            h.until(4, 1000);
            Check.due("the number", h.user(4, 2), 100 + p);
        }
    }

    private static void leastFreeBlock() {
        Check.sentence("a new block is the least of 0 .. 23 that is free");
        ServerHouse h = new ServerHouse();
        for (int a = 0; a < 3; a++) {
            Check.asked(h, 4, Check.OPEN, a, 0, a);
            for (int i = 0; i < 8; i++) {
                Check.write(h, 4, a, i);
            }
            Check.due("the block of " + a, h.file(a, 1), a);
        }
        for (int a = 0; a < 2; a++) {
            Check.asked(h, 4, Check.CLOSE, a, 0, 0);
            Check.asked(h, 4, Check.REMOVE, a, 0, 0);
        }
        Check.asked(h, 4, Check.WRITE, 2, 5, 0);
        Check.asked(h, 4, Check.OPEN, 7, 0, 0);
        Check.asked(h, 4, Check.WRITE, 0, 5, 0);
        Check.due("the second one of file 2", h.file(2, 2), 0);
        Check.due("the next", h.file(7, 1), 1);
        for (int i = 0; i < 8; i++) {
            Check.write(h, 4, 0, i);
        }
        Check.due("one behind those that are taken", h.file(7, 2), 3);
        Check.due("blocks that are free", h.count(11), 20);
    }

    private static void readFetches() {
        Check.sentence("READ fetches the block.");
        ServerHouse h = Check.withNumbers(3);
        Check.asked(h, 4, Check.SEEK, 0, 1, 0);
        int start = Check.calm(h);
        int passed = h.count(13);
        h.call(4, Check.READ, 0, 0);
        Check.turnDone(h, start, 0, 2);
        Check.mail(h, 1, 0, 2, 20, 0, 0, 0);
        Check.turnDone(h, start, 2, 2);
        Check.mail(h, 4, 0, 2, 50, 101, 0, 0);
        Check.due("the call, 20, 22, 50 and no 21", h.count(13), passed + 4);
    }

    private static void writeOfANewBlock() {
        Check.sentence("WRITE: if the number is the first of a new block: that is taken, and stored, the others 0");
        ServerHouse h = Check.withNumbers(16);
        Check.asked(h, 4, Check.CLOSE, 0, 0, 0);
        Check.asked(h, 4, Check.REMOVE, 0, 0, 0);
        Check.due("old numbers are on the disk", h.disk(0, 7), 107);
        Check.asked(h, 4, Check.OPEN, 0, 0, 0);
        int start = Check.calm(h);
        h.call(4, Check.WRITE, 0, 55);
        Check.turnDone(h, start, 0, 2);
        Check.due("taken at once", h.count(11), 23);
        Check.mail(h, 1, 0, 2, 21, 0, 0, 0);
        h.until(4, 100);
        Check.due("the number", h.disk(0, 0), 55);
        for (int k = 1; k < 8; k++) {
            Check.due("the others", h.disk(0, k), 0);
        }
        Check.due("another block stays", h.disk(1, 0), 108);
        for (int i = 1; i < 8; i++) {
            Check.write(h, 4, 0, 60 + i);
        }
        start = Check.calm(h);
        h.call(4, Check.WRITE, 0, 68);
        Check.turnDone(h, start, 0, 2);
        Check.mail(h, 1, 0, 2, 21, 1, 0, 0);
        h.until(4, 100);
        Check.due("the ninth number", h.disk(1, 0), 68);
        Check.due("the others there", h.disk(1, 7), 0);
        Check.due("the block before stays", h.disk(0, 7), 67);
    }

    private static void writeOfAnOldBlock() {
        Check.sentence("else the block is fetched, changed, stored");
        int[] places = {0, 7, 8, 9};
        for (int p : places) {
            ServerHouse h = Check.withNumbers(9);
            Check.asked(h, 4, Check.SEEK, 0, p, 0);
            h.crash();
            int start = Check.calm(h);
            h.call(4, Check.WRITE, 0, -5);
            Check.turnDone(h, start, 0, 2);
            Check.mail(h, 1, 0, 2, 20, p / 8, 0, 0);
            Check.turnDone(h, start, 2 + p / 8, 2);
            Check.mail(h, 1, 0, 2, 21, p / 8, 0, 0);
            Check.due("no block was taken", h.count(11), 22);
            h.until(4, 100);
            for (int i = 0; i < 16; i++) {
                int due = i == p ? -5 : i < 9 ? 100 + i : 0;
                Check.due("number " + i, h.disk(i / 8, i % 8), due);
            }
        }
    }

    private static void changesAsTheLast() {
        Check.sentence("Size and place change, and the answer goes, as the last of this is done.");
        ServerHouse h = Check.withNumbers(1);
        int start = Check.calm(h);
        h.call(4, Check.WRITE, 0, 5);
        for (int round = 0; round < 4; round++) {
            Check.turnDone(h, start, round, 2);
            Check.due("the size stays", h.file(0, 0), 1);
            Check.due("the place stays", h.descriptor(4, 0, 1), 1);
            Check.due("no answer", h.inbox(4), 0);
        }
        Check.turnDue(h, start, 4, 2);
        Check.due("though it is on the disk", h.disk(0, 1), 5);
        Check.due("the size stays", h.file(0, 0), 1);
        h.steps(1);
        Check.due("the size", h.file(0, 0), 2);
        Check.due("the place", h.descriptor(4, 0, 1), 2);
        Check.mail(h, 4, 0, 2, 50, 0, 0, 0);

        ServerHouse g = Check.withNumbers(1);
        Check.asked(g, 4, Check.SEEK, 0, 0, 0);
        start = Check.calm(g);
        g.call(4, Check.READ, 0, 0);
        Check.turnDue(g, start, 2, 2);
        Check.due("the place of a read stays", g.descriptor(4, 0, 1), 0);
        g.steps(1);
        Check.due("and goes on with the answer", g.descriptor(4, 0, 1), 1);
        Check.mail(g, 4, 0, 2, 50, 100, 0, 0);
    }

    private static void removedBlocksAreFree() {
        Check.sentence("Blocks of a file that is removed are free.");
        int[] sizes = {0, 1, 8, 9, 32};
        int[] blocks = {0, 1, 1, 2, 4};
        for (int i = 0; i < sizes.length; i++) {
            ServerHouse h = Check.withNumbers(0);
            for (int k = 0; k < sizes[i]; k++) {
                Check.write(h, 4, 0, k);
            }
            Check.asked(h, 4, Check.OPEN, 1, 0, 1);
            Check.asked(h, 4, Check.WRITE, 1, 5, 0);
            Check.due("free of a file of " + sizes[i], h.count(11), 23 - blocks[i]);
            Check.asked(h, 4, Check.CLOSE, 0, 0, 0);
            Check.asked(h, 4, Check.REMOVE, 0, 0, 0);
            Check.due("free behind that", h.count(11), 23);
            Check.due("the other's block stays", h.file(1, 1), blocks[i]);
        }
    }

    private static void goesOnInThisTurn() {
        Check.sentence("The DRIVER's 22 ends that: the CALL goes on in this TURN.");
        ServerHouse h = Check.withNumbers(1);
        int start = Check.calm(h);
        h.call(4, Check.WRITE, 0, 5);
        Check.turnDone(h, start, 2, 1);
        Check.mail(h, 2, 0, 1, 22);
        Check.turnDone(h, start, 2, 2);
        Check.mail(h, 1, 0, 2, 21);
        Check.due("it waits anew", h.count(6), 1);
        Check.turnDone(h, start, 4, 1);
        Check.mail(h, 2, 0, 1, 22);
        Check.turnDone(h, start, 4, 2);
        Check.due("it waits no more", h.count(6), 0);
        Check.mail(h, 4, 0, 2, 50);
    }

    private static void newsWhileItDoesNotWait() {
        Check.sentence("Of a new LIFE it is told by 42: if it waits then");
        ServerHouse h = Check.withNumbers(1);
        int start = Check.calm(h);
        h.crash();
        Check.turnDone(h, start, 2, 0);
        int passed = h.count(13);
        Check.mail(h, 2, 0, 0, 42, 2);
        Check.turnDone(h, start, 3, 2);
        Check.due("taken", h.inbox(2), 0);
        Check.due("nothing goes out", h.count(13), passed);
        Check.due("it does not wait", h.count(6), 0);
        Check.asked(h, 4, Check.WRITE, 0, 5, 0);
        Check.due("life", h.count(2), 2);
    }

    private static void newsWhileItWaits() {
        Check.sentence("if it waits then, the message goes out anew, in this TURN");
        int[] kinds = {20, 21};
        for (int kind : kinds) {
            ServerHouse h = Check.withNumbers(kind == 20 ? 1 : 0);
            int start = Check.calm(h);
            h.call(4, Check.WRITE, 0, 5);
            Check.turnDone(h, start, 1, 1);
            Check.due("the driver has a job", h.count(5), 1);
            h.crash();
            Check.turnDone(h, start, 4, 1);
            Check.due("a new life without one", h.count(5) + h.inbox(1), 0);
            Check.turnDone(h, start, 4, 2);
            Check.mail(h, 1, 0, 2, kind, 0, 0, 0, -1);
            Check.due("once", h.inbox(1), 1);
            h.until(4, 100);
            Check.due("the answer", h.user(4, 2), 0);
            Check.due("the number", h.disk(0, kind == 20 ? 1 : 0), 5);
            Check.due("the number before it", h.disk(0, 0), kind == 20 ? 100 : 5);
        }
    }

    private static void newsBetweenFetchAndStore() {
        Check.sentence("if it waits then, the message goes out anew, in this TURN");
        ServerHouse h = Check.withNumbers(3);
        Check.asked(h, 4, Check.SEEK, 0, 1, 0);
        int start = Check.calm(h);
        h.call(4, Check.WRITE, 0, 5);
        Check.turnDone(h, start, 2, 2);
        Check.mail(h, 1, 0, 2, 21);
        h.crash();
        Check.turnDone(h, start, 5, 2);
        Check.mail(h, 1, 0, 2, 21, 0, 0, 0);
        Check.turnDone(h, start, 7, 2);
        Check.mail(h, 4, 0, 2, 50, 0, 0, 0);
        int[] numbers = {100, 5, 102, 0};
        for (int k = 0; k < numbers.length; k++) {
            Check.due("disk(0, " + k + ")", h.disk(0, k), numbers[k]);
        }
    }

    /** The 22 of a life that is over still ends the waiting, for it is ahead of the 42. */
    private static void numbersOfALifeBefore() {
        Check.sentence("The DRIVER's 22 ends that");
        ServerHouse h = Check.withNumbers(1);
        int start = Check.calm(h);
        h.call(4, Check.WRITE, 0, 5);
        Check.turnDone(h, start, 2, 1);
        Check.mail(h, 2, 0, 1, 22);
        h.crash();
        Check.turnDone(h, start, 2, 2);
        Check.due("the block was fetched, 21 is DEAD, it waits", h.count(6), 1);
        Check.turnDone(h, start, 5, 2);
        Check.mail(h, 1, 0, 2, 21, 0, 0, 0);
        h.until(4, 100);
        Check.due("the number", h.disk(0, 1), 5);
        Check.due("the one that was fetched", h.disk(0, 0), 100);
    }

    private static void newsOfADeadDriver() {
        Check.sentence("(if it is DEAD, as ever, it waits on to be told)");
        ServerHouse h = Check.withNumbers(1);
        Check.asked(h, 4, Check.SEEK, 0, 0, 0);
        int start = Check.calm(h);
        h.crash();
        h.call(4, Check.READ, 0, 0);
        Check.turnDone(h, start, 0, 2);
        Check.due("dead from the beginning: it waits", h.count(6), 1);
        Check.turnDone(h, start, 2, 0);
        Check.mail(h, 2, 0, 0, 42, 2);
        Check.due("crash again", h.crash(), true);
        int passed = h.count(13);
        Check.turnDone(h, start, 2, 2);
        Check.due("42 was taken", h.inbox(2), 0);
        Check.due("nothing went", h.count(13), passed);
        Check.due("it waits on", h.count(6), 1);
        Check.turnDone(h, start, 5, 0);
        Check.due("life", h.count(2), 3);
        Check.turnDone(h, start, 5, 2);
        Check.mail(h, 1, 0, 2, 20);
        h.until(4, 100);
        Check.due("the answer", h.user(4, 2), 100);
    }

    private static void newsOfAnotherLife() {
        Check.sentence("has another LIFE than that was told of");
        ServerHouse h = Check.withNumbers(1);
        Check.asked(h, 4, Check.SEEK, 0, 0, 0);
        int start = Check.calm(h);
        h.crash();
        h.call(4, Check.READ, 0, 0);
        Check.turnDue(h, start, 2, 0);
        Check.forceTimes(h, 3, 2, 4);
        Check.turnDone(h, start, 2, 0);
        h.crash();
        Check.turnDone(h, start, 5, 0);
        Check.due("life", h.count(2), 3);
        Check.mail(h, 2, 0, 3, 0);
        Check.mail(h, 2, 1, 0, 42, 2);
        Check.mail(h, 2, 2, 0, 42, 3);
        Check.turnDone(h, start, 6, 2);
        Check.due("told of life 2: nothing goes to life 3", h.inbox(1), 0);
        Check.due("it waits on", h.count(6), 1);
        Check.turnDone(h, start, 7, 2);
        Check.mail(h, 1, 0, 2, 20);
    }

    private static void copiesAndCloses() {
        Check.sentence("From 3: 30 a b: the descriptors of b become those of a; 31 a: those of a are closed; 32 goes to 3");
        ServerHouse h = Check.withNumbers(1);
        int start = Check.calm(h);
        h.call(4, Check.FORK, 0, 0);
        Check.turnDone(h, start, 0, 3);
        Check.mail(h, 2, 0, 3, 30, 4, 5, 0);
        Check.turnDue(h, start, 1, 2);
        Check.due("not yet", h.descriptor(5, 0, 0), -1);
        h.steps(1);
        Check.due("file", h.descriptor(5, 0, 0), 0);
        Check.due("place", h.descriptor(5, 0, 1), 1);
        Check.mail(h, 3, 0, 2, 32, 0, 0, 0);
        h.until(4, 100);
        start = Check.calm(h);
        h.call(5, Check.EXIT, 0, 0);
        Check.turnDone(h, start, 0, 3);
        Check.mail(h, 2, 0, 3, 31, 5, 0, 0);
        Check.turnDue(h, start, 1, 2);
        Check.due("not yet", h.user(5, 6), 1);
        h.steps(1);
        Check.due("closed", h.user(5, 6), 0);
        Check.due("the other's stay", h.user(4, 6), 1);
        Check.mail(h, 3, 0, 2, 32, 0, 0, 0);
    }
}
