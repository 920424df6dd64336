/** Promise 5: crash; and how the keeper starts the driver anew, and the file server's asking anew. */
public final class CrashTest {
    public static void main(String[] args) {
        whatIsGone();
        startedAnew();
        dueToAskAnew();
        anotherLife();
        usersAreOfNoLife();
        heldByDriverIsGone();
        countsFromZero();
        newLifeIsHeld();
        askingAgainInNewLife();
        Check.end();
    }

    private static void whatIsGone() {
        ServerHouse h = Check.withNumbers(9);
        Check.due("the arm is at block 1", h.count(4), 1);
        Check.asked(h, 4, Check.SEEK, 0, 8, 0);
        h.call(4, Check.READ, 0, 0);
        for (int i = 0; i < 24 && h.count(5) == 0; i++) {
            h.steps(1);
        }
        Check.due("it has a job", h.count(5), 1);
        Check.forceTimes(h, 2, 1, 3);
        h.hang();
        Check.due("crash of one that hangs", h.crash(), true);
        Check.due("it doesn't live", h.count(3), 0);
        Check.due("its arm", h.count(4), 0);
        Check.due("its job", h.count(5), 0);
        Check.due("its inbox", h.inbox(1), 0);
        Check.due("its life", h.count(2), 1);
        Check.due("crashes", h.count(8), 1);
        Check.due("the file server waits on", h.count(6), 1);
        Check.due("the disk stays", h.disk(1, 0), 108);
        Check.due("crash again", h.crash(), false);
        Check.due("crashes still", h.count(8), 1);
        Check.due("steps until the answer came", h.until(4, 20000) < 20000, true);
        Check.due("the answer", h.user(4, 2), 108);
        Check.due("the life now", h.count(2), 2);
    }

    private static void startedAnew() {
        ServerHouse h = new ServerHouse();
        h.steps(1);
        h.crash();
        Check.stepTo(h, 36);
        Check.due("two turns of the keeper are not enough", h.count(3), 0);
        Check.stepTo(h, 37);
        Check.due("the third is", h.count(3), 1);
        Check.due("life", h.count(2), 2);
        Check.mail(h, 2, 0, 0, 42, 2, 0, 0);
        Check.stepTo(h, 39);
        Check.due("the file server took it", h.inbox(2), 0);
        Check.due("it was not waiting, so it asks for nothing", h.count(13), 1);
    }

    private static void dueToAskAnew() {
        ServerHouse h = new ServerHouse();
        Check.asked(h, 4, Check.OPEN, 0, 0, 0);
        h.crash();
        h.call(4, Check.WRITE, 0, 7);
        Check.stepTo(h, 15);
        Check.due("it waits, though the message was lost", h.count(6), 1);
        Check.due("nothing went", h.count(13), 3);
        Check.due("the block is taken", h.count(11), 23);
        Check.stepTo(h, 38);
        Check.due("new life", h.count(2), 2);
        Check.due("its inbox is empty", h.inbox(1), 0);
        Check.stepTo(h, 39);
        Check.mail(h, 1, 0, 2, 21, 0, 0, 0);
        Check.stepTo(h, 63);
        Check.due("done by now", h.count(6), 0);
        Check.due("with the same number", h.disk(0, 0), 7);
        Check.due("size", h.file(0, 0), 1);
    }

    private static void anotherLife() {
        ServerHouse h = Check.withNumbers(1);
        Check.asked(h, 4, Check.SEEK, 0, 0, 0);
        h.crash();
        int third = h.count(0) / 12 * 12 + 12 * 3 + 1;
        Check.stepTo(h, third - 1);
        h.call(4, Check.READ, 0, 0);
        h.steps(1);
        Check.due("the call is ahead of 42", h.message(2, 1, 1), 42);
        int through = h.count(13);
        h.steps(2);
        Check.due("it waits", h.count(6), 1);
        Check.due("the message was for another life", h.inbox(1), 0);
        Check.due("nothing went", h.count(13), through);
        Check.due("a forced one is never dead by a life", h.force(2, 1), 0);
        h.steps(12);
        Check.due("now it was told", h.inbox(1), 1);
        Check.mail(h, 1, 0, 2, 20, 0, 0, 0);
        h.until(4, 1000);
        Check.due("the answer", h.user(4, 2), 100);
    }

    /** A file server that was not told of the new life yet still answers users. */
    private static void usersAreOfNoLife() {
        ServerHouse h = Check.withNumbers(1);
        h.crash();
        int third = h.count(0) / 12 * 12 + 12 * 3 + 1;
        Check.stepTo(h, third - 1);
        h.call(4, Check.SIZE, 0, 0);
        Check.stepTo(h, third + 2);
        Check.mail(h, 2, 0, 0, 42, 2);
        Check.mail(h, 4, 0, 2, 50, 1);
    }

    private static void heldByDriverIsGone() {
        ServerHouse h = new ServerHouse();
        Check.asked(h, 4, Check.OPEN, 0, 0, 0);
        h.call(4, Check.WRITE, 0, 5);
        Check.stepTo(h, 37);
        Check.due("its job is to be done next", h.count(5), 1);
        Check.forceTimes(h, 4, 2, 12);
        h.steps(1);
        Check.due("the job is done", h.count(5), 0);
        Check.due("it was written", h.disk(0, 0), 5);
        Check.due("22 found the inbox full", h.message(2, 11, 1), 0);
        h.crash();
        Check.stepTo(h, 74);
        Check.due("it had its first turn in a new life", h.count(2), 2);
        Check.mail(h, 2, 9, 0, 42, 2);
        Check.due("no 22 came", h.inbox(2), 10);
        h.until(4, 20000);
        Check.due("written anew in the next life", h.file(0, 0), 1);
        Check.due("life", h.count(2), 2);
    }

    private static void countsFromZero() {
        ServerHouse h = new ServerHouse();
        h.crash();
        h.steps(25);
        Check.due("started", h.count(2), 2);
        h.crash();
        h.steps(24);
        Check.due("not started after two more", h.count(3), 0);
        h.steps(12);
        Check.due("started after three", h.count(3), 1);
        Check.due("life", h.count(2), 3);
        Check.due("crashes", h.count(8), 2);
    }

    private static void newLifeIsHeld() {
        ServerHouse h = new ServerHouse();
        h.crash();
        Check.stepTo(h, 24);
        Check.forceTimes(h, 4, 2, 12);
        h.steps(1);
        Check.due("it lives", h.count(3), 1);
        Check.due("but 42 found no room", h.count(13), 12);
        h.crash();
        Check.stepTo(h, 37);
        Check.due("42 went at the keeper's next turn", h.count(13), 13);
        Check.mail(h, 2, 11, 0, 42, 2);
        Check.stepTo(h, 61);
        Check.due("that turn did not count", h.count(3), 0);
        Check.stepTo(h, 73);
        Check.due("three others did", h.count(2), 3);
    }

    private static void askingAgainInNewLife() {
        ServerHouse h = new ServerHouse();
        Check.stepTo(h, 109);
        Check.mail(h, 1, 0, 0, 40);
        h.crash();
        Check.stepTo(h, 228);
        Check.due("40 was sent in another life", h.inbox(1), 0);
        h.steps(1);
        Check.due("so it does not crash", h.count(8), 1);
        Check.mail(h, 1, 0, 0, 40);
    }
}
