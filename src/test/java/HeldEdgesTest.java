/** Terms 1 of the document: a message that is FULL stays with its part, of each part and kind. */
public final class HeldEdgesTest {
    private static final String STAYS = "A message that is FULL stays with its part: "
        + "that one's TURNS are to send it again, and nothing else";
    private static final String UNTIL = "until it is 0, 2 (then it is lost, but see 3)";

    public static void main(String[] args) {
        newsStay();
        askingStays();
        askingIsLost();
        wellStays();
        numbersStay();
        answerByFilesStays();
        answerByFilesIsLost();
        fetchStays();
        storeStays();
        askedDriverIsLost(1, Check.READ, 20, 100);
        askedDriverIsLost(0, Check.WRITE, 21, 0);
        doneStays();
        copyStays();
        closeStays();
        answerByProcessesStays();
        forcedIsLost();
        calledIsLost();
        Check.end();
    }

    private static void newsStay() {
        Check.sentence(STAYS);
        ServerHouse h = new ServerHouse();
        h.crash();
        Check.turnDue(h, 0, 2, 0);
        Check.forceTimes(h, 3, 2, 12);
        Check.turnDone(h, 0, 2, 0);
        Check.due("the third turn starts it", h.count(2), 2);
        Check.due("42 is full", h.count(13), 12);
        Check.forceTimes(h, 1, 0, 1);
        for (int round = 2; round < 9; round++) {
            Check.turnDone(h, 0, round, 2);
            Check.forceTimes(h, 3, 2, 1);
            Check.turnDone(h, 0, round + 1, 0);
            Check.due("no message was taken", h.inbox(0), 1);
            Check.due("42 is full still", h.message(2, 11, 1), 0);
        }
        Check.due("no 40, though it was the 10th turn", h.inbox(1), 0);
        Check.sentence(UNTIL);
        Check.turnDone(h, 0, 10, 0);
        Check.mail(h, 2, 11, 0, 42, 2, 0, 0);
        Check.due("that was the turn", h.inbox(0), 1);
        Check.turnDone(h, 0, 11, 0);
        Check.due("then the next message", h.inbox(0), 0);
        Check.due("42 went once", h.count(13), 12 + 1 + 7 + 1);
    }

    /** A house after the keeper's 10th turn: its 40 is full, a forced message waits for it. */
    private static ServerHouse withAskingHeld() {
        ServerHouse h = new ServerHouse();
        h.hang();
        Check.stepTo(h, 108);
        Check.forceTimes(h, 0, 1, 12);
        Check.stepTo(h, 109);
        Check.due("40 is full", h.count(13), 12);
        Check.forceTimes(h, 1, 0, 1);
        return h;
    }

    private static void askingStays() {
        Check.sentence(STAYS);
        ServerHouse h = withAskingHeld();
        for (int turn = 11; turn <= 31; turn++) {
            Check.stepTo(h, 12 * turn - 11);
            Check.due("no message was taken", h.inbox(0), 1);
        }
        Check.due("no crash", h.count(8), 0);

        ServerHouse g = new ServerHouse();
        Check.stepTo(g, 108);
        Check.forceTimes(g, 0, 1, 12);
        Check.stepTo(g, 110);
        Check.due("the driver took one", g.inbox(1), 11);
        Check.sentence(UNTIL);
        Check.stepTo(g, 121);
        Check.mail(g, 1, 11, 0, 40, 0, 0, 0);
        Check.due("it went once", g.count(13), 13);
    }

    private static void askingIsLost() {
        Check.sentence(UNTIL);
        ServerHouse h = withAskingHeld();
        h.crash();
        Check.stepTo(h, 121);
        Check.due("lost", h.count(13), 13);
        Check.stepTo(h, 156);
        Check.due("that turn was to send, not one of the three", h.count(3), 0);
        Check.stepTo(h, 157);
        Check.due("these are the three", h.count(3), 1);
        Check.due("42 alone went", h.count(13), 14);
        Check.due("none came to the driver", h.inbox(1), 0);
        Check.stepTo(h, 169);
        Check.due("messages are taken again", h.inbox(0), 0);
    }

    private static void wellStays() {
        Check.sentence(STAYS);
        ServerHouse h = Check.withNumbers(9);
        Check.asked(h, 4, Check.SEEK, 0, 0, 0);
        int start = Check.calm(h);
        Check.turnDue(h, start, 6, 0);
        h.call(4, Check.READ, 0, 0);
        Check.turnDone(h, start, 8, 0);
        Check.due("it has a job", h.count(5), 1);
        Check.due("the arm", h.count(4), 1);
        Check.forceTimes(h, 1, 0, 12);
        Check.turnDone(h, start, 8, 1);
        Check.due("40 is taken", h.inbox(1), 0);
        Check.turnDone(h, start, 9, 0);
        Check.forceTimes(h, 1, 0, 1);
        Check.turnDone(h, start, 9, 1);
        Check.due("41 is full again, and the arm did not move", h.count(4), 1);
        Check.sentence(UNTIL);
        Check.turnDone(h, start, 10, 1);
        Check.mail(h, 0, 11, 1, 41, 0, 0, 0);
        Check.due("the arm did not move then", h.count(4), 1);
        Check.turnDone(h, start, 11, 1);
        Check.due("but now", h.count(4), 0);
    }

    private static void numbersStay() {
        Check.sentence(STAYS);
        ServerHouse h = new ServerHouse();
        Check.asked(h, 4, Check.OPEN, 0, 0, 0);
        h.call(4, Check.WRITE, 0, 3);
        Check.turnDue(h, 0, 3, 1);
        Check.forceTimes(h, 3, 2, 12);
        Check.turnDone(h, 0, 3, 1);
        Check.due("written", h.disk(0, 0), 3);
        Check.due("22 is full", h.message(2, 11, 1), 0);
        Check.forceTimes(h, 0, 1, 1);
        Check.turnDone(h, 0, 3, 2);
        Check.forceTimes(h, 3, 2, 1);
        Check.turnDone(h, 0, 4, 1);
        Check.due("22 is full again", h.message(2, 11, 1), 0);
        Check.due("the driver takes nothing", h.inbox(1), 1);
        Check.sentence(UNTIL);
        Check.turnDone(h, 0, 5, 1);
        Check.mail(h, 2, 11, 1, 22, 0, 0, 0);
        Check.due("that was the turn", h.inbox(1), 1);
        Check.turnDone(h, 0, 6, 1);
        Check.due("then the next message", h.inbox(1), 0);
    }

    private static void answerByFilesStays() {
        Check.sentence(STAYS);
        ServerHouse h = new ServerHouse();
        Check.forceTimes(h, 2, 4, 12);
        h.call(4, Check.OPEN, 0, 0);
        Check.turnDone(h, 0, 0, 2);
        Check.due("done", h.file(0, 0), 0);
        Check.forceTimes(h, 0, 2, 1);
        for (int round = 0; round < 3; round++) {
            Check.turnDone(h, 0, round, 4);
            Check.forceTimes(h, 3, 4, 1);
            Check.turnDone(h, 0, round + 1, 2);
            Check.due("the answer is full", h.message(4, 11, 1), 0);
            Check.due("no message is taken", h.inbox(2), 1);
        }
        Check.sentence(UNTIL);
        Check.turnDone(h, 0, 4, 2);
        Check.mail(h, 4, 11, 2, 50, 0, 0, 0);
        Check.due("that was the turn", h.inbox(2), 1);
        Check.turnDone(h, 0, 5, 2);
        Check.due("then the next message", h.inbox(2), 0);
    }

    private static void answerByFilesIsLost() {
        Check.sentence(UNTIL);
        ServerHouse h = new ServerHouse();
        Check.asked(h, 4, Check.FORK, 0, 0, 5);
        int start = Check.calm(h);
        Check.forceTimes(h, 2, 5, 12);
        h.call(5, Check.OPEN, 0, 0);
        h.call(4, Check.KILL, 5, 0);
        Check.turnDone(h, start, 0, 3);
        Check.due("the file was made", h.file(0, 0), 0);
        Check.due("its user lives no more", h.user(5, 0), 2);
        Check.mail(h, 2, 0, 3, 31, 5);
        int passed = h.count(13);
        Check.turnDone(h, start, 1, 2);
        Check.due("it is lost: that was the turn", h.inbox(2), 1);
        Check.due("not let through", h.count(13), passed);
        Check.turnDone(h, start, 2, 2);
        Check.due("then the 31 is taken", h.inbox(2), 0);
        h.until(4, 100);
        Check.due("who killed is answered", h.user(4, 2), 0);
        Check.due("nobody else is", h.user(5, 3), 0);
    }

    /** A house whose file server has a message for the driver (with these numbers in the file) that is full. */
    private static ServerHouse withAskedDriverFull(int numbers, int kind) {
        ServerHouse h = Check.withNumbers(numbers);
        if (kind == Check.READ) {
            Check.asked(h, 4, Check.SEEK, 0, 0, 0);
        }
        int start = Check.calm(h);
        h.call(4, kind, 0, 5);
        Check.turnDue(h, start, 0, 2);
        Check.forceTimes(h, 0, 1, 12);
        Check.turnDone(h, start, 0, 2);
        Check.due("it waits", h.count(6), 1);
        Check.due("the message is full", h.message(1, 11, 1), 0);
        Check.forceTimes(h, 3, 2, 1);
        Check.turnDone(h, start, 1, 1);
        Check.forceTimes(h, 0, 1, 1);
        Check.turnDone(h, start, 1, 2);
        Check.due("it is full again", h.message(1, 11, 1), 0);
        Check.due("no message is taken", h.inbox(2), 1);
        return h;
    }

    private static void goesIn(ServerHouse h, int kind) {
        int start = h.count(0) - 15;
        Check.sentence(UNTIL);
        Check.turnDone(h, start, 2, 2);
        Check.mail(h, 1, 11, 2, kind, 0, 0, 0);
        Check.due("that was the turn", h.inbox(2), 1);
        Check.turnDone(h, start, 3, 2);
        Check.due("then the next message", h.inbox(2), 0);
        Check.due("it waits on", h.count(6), 1);
        h.until(4, 1000);
    }

    private static void fetchStays() {
        Check.sentence(STAYS);
        ServerHouse h = withAskedDriverFull(1, Check.READ);
        goesIn(h, 20);
        Check.due("the answer", h.user(4, 2), 100);
    }

    private static void storeStays() {
        Check.sentence(STAYS);
        ServerHouse h = withAskedDriverFull(0, Check.WRITE);
        goesIn(h, 21);
        Check.due("the answer", h.user(4, 2), 0);
        Check.due("the number", h.disk(0, 0), 5);
    }

    private static void askedDriverIsLost(int numbers, int kind, int message, int answer) {
        Check.sentence(UNTIL);
        ServerHouse h = withAskedDriverFull(numbers, kind);
        int start = h.count(0) - 15;
        int passed = h.count(13);
        h.crash();
        Check.turnDone(h, start, 2, 2);
        Check.due("lost: that was the turn", h.inbox(2), 1);
        Check.due("it waits to be told", h.count(6), 1);
        Check.turnDone(h, start, 3, 2);
        Check.due("then a message is taken", h.inbox(2), 0);
        Check.turnDone(h, start, 4, 0);
        Check.due("a new life", h.count(2), 2);
        Check.turnDone(h, start, 4, 1);
        Check.due("42 alone went", h.count(13), passed + 1);
        Check.turnDone(h, start, 4, 2);
        Check.mail(h, 1, 0, 2, message, 0, 0, 0);
        h.until(4, 1000);
        Check.due("the answer", h.user(4, 2), answer);
        Check.due("the number", h.disk(0, 0), kind == Check.READ ? 100 : 5);
    }

    private static void doneStays() {
        Check.sentence(STAYS);
        ServerHouse h = new ServerHouse();
        h.call(4, Check.FORK, 0, 0);
        Check.turnDue(h, 0, 1, 2);
        Check.forceTimes(h, 4, 3, 12);
        Check.forceTimes(h, 0, 2, 1);
        Check.turnDone(h, 0, 1, 2);
        Check.due("32 is full", h.message(3, 11, 1), 0);
        Check.turnDone(h, 0, 1, 3);
        Check.forceTimes(h, 4, 3, 1);
        Check.turnDone(h, 0, 2, 2);
        Check.due("it is full again", h.message(3, 11, 1), 0);
        Check.due("no message is taken", h.inbox(2), 1);
        Check.due("no child yet", h.user(5, 0), 0);
        Check.sentence(UNTIL);
        Check.turnDone(h, 0, 3, 2);
        Check.mail(h, 3, 11, 2, 32, 0, 0, 0);
        Check.due("that was the turn", h.inbox(2), 1);
        Check.turnDone(h, 0, 3, 3);
        Check.due("the first one from it, or of kind 0", h.inbox(3), 11);
        Check.turnDone(h, 0, 4, 2);
        Check.due("then the next message", h.inbox(2), 0);
    }

    private static void copyStays() {
        Check.sentence(STAYS);
        ServerHouse h = new ServerHouse();
        Check.forceTimes(h, 0, 2, 12);
        h.call(4, Check.FORK, 0, 0);
        Check.turnDone(h, 0, 0, 2);
        Check.forceTimes(h, 0, 2, 1);
        Check.turnDone(h, 0, 0, 3);
        Check.due("it waits", h.count(7), 1);
        Check.due("30 is full", h.message(2, 11, 1), 0);
        Check.forceTimes(h, 4, 3, 1);
        Check.turnDone(h, 0, 1, 2);
        Check.forceTimes(h, 0, 2, 1);
        Check.turnDone(h, 0, 1, 3);
        Check.due("it is full again", h.message(2, 11, 1), 0);
        Check.due("no message is taken", h.inbox(3), 1);
        Check.sentence(UNTIL);
        Check.turnDone(h, 0, 2, 3);
        Check.mail(h, 2, 11, 3, 30, 4, 5, 0);
        Check.due("that was the turn", h.inbox(3), 1);
        Check.turnDone(h, 0, 3, 3);
        Check.due("then the next message", h.inbox(3), 0);
    }

    private static void closeStays() {
        Check.sentence(STAYS);
        ServerHouse h = new ServerHouse();
        h.call(4, Check.EXIT, 0, 0);
        Check.turnDone(h, 0, 0, 2);
        Check.forceTimes(h, 0, 2, 12);
        Check.forceTimes(h, 2, 3, 1);
        Check.turnDone(h, 0, 0, 3);
        Check.due("it lives no more all the same", h.count(12), 0);
        Check.due("31 is full", h.message(2, 11, 1), 0);
        Check.turnDone(h, 0, 1, 2);
        Check.forceTimes(h, 0, 2, 1);
        Check.turnDone(h, 0, 1, 3);
        Check.due("it is full again", h.message(2, 11, 1), 0);
        Check.due("no message is taken", h.inbox(3), 1);
        Check.sentence(UNTIL);
        Check.turnDone(h, 0, 2, 3);
        Check.mail(h, 2, 11, 3, 31, 4, 0, 0);
        Check.turnDone(h, 0, 3, 3);
        Check.due("then the next message", h.inbox(3), 0);
        h.steps(12 * 14);
        Check.due("and it ended", h.user(4, 0), 0);
    }

    private static void answerByProcessesStays() {
        Check.sentence(STAYS);
        ServerHouse h = new ServerHouse();
        Check.forceTimes(h, 2, 4, 12);
        h.call(4, Check.PARENT, 0, 0);
        Check.turnDone(h, 0, 0, 3);
        Check.due("the answer is full", h.message(4, 11, 1), 0);
        Check.forceTimes(h, 2, 3, 1);
        Check.turnDone(h, 0, 0, 4);
        Check.forceTimes(h, 2, 4, 1);
        Check.turnDone(h, 0, 1, 3);
        Check.due("it is full again", h.message(4, 11, 1), 0);
        Check.due("no message is taken", h.inbox(3), 1);
        Check.sentence(UNTIL);
        Check.turnDone(h, 0, 2, 3);
        Check.mail(h, 4, 11, 3, 50, 0, 0, 0);
        Check.due("that was the turn", h.inbox(3), 1);
        Check.turnDone(h, 0, 3, 3);
        Check.due("then the next message", h.inbox(3), 0);
    }

    private static void forcedIsLost() {
        Check.sentence("FULL: it is lost");
        ServerHouse h = new ServerHouse();
        Check.forceTimes(h, 3, 2, 12);
        Check.due("the thirteenth", h.force(3, 2), 3);
        h.call(4, Check.PARENT, 0, 0);
        Check.turnDone(h, 0, 0, 3);
        Check.due("its sender's turn is as ever", h.inbox(3), 0);
        h.steps(12 * 12);
        Check.due("it never came", h.inbox(2), 0);
        Check.due("twelve, the call and its answer, 40, 41", h.count(13), 16);
    }

    private static void calledIsLost() {
        Check.sentence("4: the server's INBOX is FULL");
        ServerHouse h = new ServerHouse();
        Check.forceTimes(h, 3, 2, 12);
        Check.due("call", h.call(4, Check.OPEN, 0, 0), 4);
        h.steps(12 * 14);
        Check.due("it never came", h.file(0, 0), -1);
        Check.due("nor an answer", h.user(4, 3), 0);
    }
}
