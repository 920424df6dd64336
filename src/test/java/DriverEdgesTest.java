/** Terms 3 of the document, sentence by sentence: the driver's turn, and what a crash takes away. */
public final class DriverEdgesTest {
    public static void main(String[] args) {
        hangingWithAJob();
        hangingWithMessages();
        hangingWithWhatIsFull();
        askedAheadOfAJob();
        askedAheadOfMessages();
        armAtTheBlock();
        armGoesUp();
        armGoesDown();
        armFromEndToEnd();
        jobAheadOfMessages();
        numbersOfAFetch();
        firstMessageIsTheJob();
        armAtZeroInEachLife();
        crashTakesAll();
        crashTakesWhatWasFull();
        crashTakesFullNumbers();
        Check.end();
    }

    private static void hangingWithAJob() {
        Check.sentence("THE DRIVER's TURN: hanging: nothing.");
        ServerHouse h = Check.withNumbers(9);
        Check.asked(h, 4, Check.SEEK, 0, 0, 0);
        int start = Check.calm(h);
        h.call(4, Check.READ, 0, 0);
        Check.turnDone(h, start, 1, 1);
        Check.due("a job", h.count(5), 1);
        h.hang();
        Check.turnDone(h, start, 7, 1);
        Check.due("the job stays", h.count(5), 1);
        Check.due("the arm too", h.count(4), 1);
        Check.due("the call", h.user(4, 1), 1);
        Check.due("it hangs", h.count(3), 2);
    }

    private static void hangingWithMessages() {
        Check.sentence("THE DRIVER's TURN: hanging: nothing.");
        ServerHouse h = new ServerHouse();
        h.hang();
        Check.forceTimes(h, 2, 1, 1);
        Check.stepTo(h, 109);
        Check.mail(h, 1, 0, 2, 0);
        Check.mail(h, 1, 1, 0, 40);
        Check.stepTo(h, 228);
        Check.due("no message is taken, not even a 40", h.inbox(1), 2);
        Check.due("no 41", h.inbox(0), 0);
        Check.due("a forced one and 40 were sent", h.count(13), 2);
    }

    private static void hangingWithWhatIsFull() {
        Check.sentence("THE DRIVER's TURN: hanging: nothing.");
        ServerHouse h = new ServerHouse();
        Check.stepTo(h, 109);
        Check.forceTimes(h, 1, 0, 12);
        Check.stepTo(h, 110);
        Check.due("40 was taken, 41 is full", h.inbox(1), 0);
        h.hang();
        Check.stepTo(h, 121);
        Check.due("there is room now", h.inbox(0), 11);
        Check.stepTo(h, 122);
        Check.due("but it is not sent again", h.inbox(0), 11);
        Check.stepTo(h, 348);
        Check.due("nor later", h.count(13), 13);
    }

    private static void askedAheadOfAJob() {
        Check.sentence("If there is a 40 in its INBOX (the first): it is taken, 41 goes to 0. Else with a job");
        ServerHouse h = Check.withNumbers(9);
        Check.asked(h, 4, Check.SEEK, 0, 0, 0);
        int start = Check.calm(h);
        Check.turnDue(h, start, 6, 2);
        h.call(4, Check.READ, 0, 0);
        Check.turnDone(h, start, 7, 1);
        Check.due("a job", h.count(5), 1);
        Check.forceTimes(h, 2, 1, 2);
        Check.turnDone(h, start, 8, 0);
        Check.mail(h, 1, 2, 0, 40);
        Check.turnDone(h, start, 8, 1);
        Check.due("40 was taken from behind the others", h.inbox(1), 2);
        Check.mail(h, 1, 1, 2, 0);
        Check.mail(h, 0, 0, 1, 41, 0, 0, 0);
        Check.due("the arm did not move", h.count(4), 1);
        Check.turnDone(h, start, 9, 1);
        Check.due("then it does", h.count(4), 0);
    }

    private static void askedAheadOfMessages() {
        Check.sentence("If there is a 40 in its INBOX (the first): it is taken, 41 goes to 0.");
        ServerHouse h = new ServerHouse();
        Check.asked(h, 4, Check.OPEN, 0, 0, 0);
        Check.stepTo(h, 98);
        h.call(4, Check.WRITE, 0, 3);
        Check.stepTo(h, 109);
        Check.mail(h, 1, 0, 2, 21);
        Check.mail(h, 1, 1, 0, 40);
        Check.stepTo(h, 110);
        Check.due("no job yet", h.count(5), 0);
        Check.due("one was taken", h.inbox(1), 1);
        Check.mail(h, 1, 0, 2, 21);
        Check.mail(h, 0, 0, 1, 41);
        Check.stepTo(h, 122);
        Check.due("now a job", h.count(5), 1);
    }

    private static void armAtTheBlock() {
        Check.sentence("if its arm stands at the block the numbers are read from, or written to the disk, "
            + "the job is done, 22 goes to 2");
        ServerHouse h = new ServerHouse();
        Check.asked(h, 4, Check.OPEN, 0, 0, 0);
        int start = Check.calm(h);
        h.call(4, Check.WRITE, 0, 7);
        Check.turnDone(h, start, 1, 1);
        Check.due("a job", h.count(5), 1);
        Check.due("the arm", h.count(4), 0);
        Check.due("not written in the turn that takes it", h.disk(0, 0), 0);
        Check.turnDone(h, start, 2, 1);
        Check.due("written", h.disk(0, 0), 7);
        Check.due("done", h.count(5), 0);
        Check.due("the arm stays", h.count(4), 0);
        Check.mail(h, 2, 0, 1, 22);
    }

    /** Rounds from the start to the turn in which a call's job is done, by the arm's way alone. */
    private static void way(ServerHouse h, int from, int to, int kind, int v) {
        int start = Check.calm(h);
        Check.due("the arm", h.count(4), from);
        h.call(4, kind, 0, v);
        int blocks = Math.abs(to - from);
        for (int i = 0; i <= blocks; i++) {
            Check.turnDone(h, start, 1 + i, 1);
            Check.due("the arm after " + i, h.count(4), to > from ? from + i : from - i);
            Check.due("a job", h.count(5), 1);
        }
        Check.turnDone(h, start, 2 + blocks, 1);
        Check.due("done", h.count(5), 0);
        Check.due("the arm", h.count(4), to);
        h.until(4, 1000);
    }

    private static ServerHouse withFourBlocks() {
        ServerHouse h = Check.withNumbers(0);
        for (int i = 0; i < 25; i++) {
            Check.write(h, 4, 0, 100 + i);
        }
        return h;
    }

    private static void armGoesUp() {
        Check.sentence("else the arm goes one block nearer");
        ServerHouse h = withFourBlocks();
        h.crash();
        Check.calm(h);
        Check.asked(h, 4, Check.SEEK, 0, 24, 0);
        way(h, 0, 3, Check.READ, 0);
        Check.due("the number", h.user(4, 2), 124);
    }

    private static void armGoesDown() {
        Check.sentence("else the arm goes one block nearer");
        ServerHouse h = withFourBlocks();
        Check.asked(h, 4, Check.SEEK, 0, 1, 0);
        way(h, 3, 0, Check.READ, 0);
        Check.due("the number", h.user(4, 2), 101);
    }

    private static void armFromEndToEnd() {
        Check.sentence("else the arm goes one block nearer");
        ServerHouse h = new ServerHouse();
        for (int a = 0; a < 8; a++) {
            Check.asked(h, 4, Check.OPEN, a, 0, 0);
            for (int i = 0; i < 17; i++) {
                Check.write(h, 4, 0, 100 * a + i);
            }
            if (a < 7) {
                Check.asked(h, 4, Check.CLOSE, 0, 0, 0);
            }
        }
        Check.due("the arm", h.count(4), 23);
        Check.due("the last block's first number", h.disk(23, 0), 716);
        Check.asked(h, 4, Check.OPEN, 0, 0, 1);
        Check.asked(h, 4, Check.READ, 1, 0, 0);
        Check.due("the arm", h.count(4), 0);
        Check.asked(h, 4, Check.SEEK, 0, 16, 0);
        Check.calm(h);
        h.call(4, Check.READ, 0, 0);
        // One round to take the job, 23 to go, one to read, and two in which a 40 is taken.
        Check.due("steps to the answer", h.until(4, 20000), 12 * 27 + 5);
        Check.due("the answer", h.user(4, 2), 716);
        Check.due("the arm", h.count(4), 23);
    }

    private static void jobAheadOfMessages() {
        Check.sentence("Else with a job .. Else the first message");
        ServerHouse h = withFourBlocks();
        Check.asked(h, 4, Check.SEEK, 0, 8, 0);
        int start = Check.calm(h);
        h.call(4, Check.READ, 0, 0);
        Check.turnDone(h, start, 1, 1);
        Check.forceTimes(h, 2, 1, 2);
        for (int round = 2; round <= 4; round++) {
            Check.turnDone(h, start, round, 1);
            Check.due("messages wait for the job's end", h.inbox(1), 2);
        }
        Check.due("which was in this turn", h.count(5), 0);
        Check.turnDone(h, start, 5, 1);
        Check.due("then the first", h.inbox(1), 1);
    }

    private static void numbersOfAFetch() {
        Check.sentence("22 goes to 2 (of a 20 with the numbers)");
        ServerHouse h = Check.withNumbers(8);
        for (int k = 0; k < 8; k++) {
            Check.asked(h, 4, Check.SEEK, 0, k, 0);
            Check.asked(h, 4, Check.READ, 0, 0, 100 + k);
        }
        Check.asked(h, 4, Check.SEEK, 0, 3, 0);
        Check.asked(h, 4, Check.WRITE, 0, -3, 0);
        for (int k = 0; k < 8; k++) {
            Check.due("disk(0, " + k + ")", h.disk(0, k), k == 3 ? -3 : 100 + k);
        }
    }

    private static void firstMessageIsTheJob() {
        Check.sentence("Else the first message: 20, 21 is its job from now on.");
        ServerHouse h = Check.withNumbers(1);
        int start = Check.calm(h);
        Check.turnDue(h, start, 0, 2);
        Check.forceTimes(h, 0, 1, 1);
        h.call(4, Check.WRITE, 0, 4);
        Check.turnDone(h, start, 0, 2);
        Check.mail(h, 1, 1, 2, 20);
        Check.turnDone(h, start, 1, 1);
        Check.due("a forced one is no job", h.count(5), 0);
        Check.turnDone(h, start, 2, 1);
        Check.due("a 20 is", h.count(5), 1);
        Check.due("it is taken", h.inbox(1), 0);
        Check.turnDone(h, start, 3, 2);
        Check.mail(h, 1, 0, 2, 21);
        Check.turnDone(h, start, 4, 1);
        Check.due("a 21 is", h.count(5), 1);
        Check.due("it is taken", h.inbox(1), 0);
    }

    private static void armAtZeroInEachLife() {
        Check.sentence("At first, and in each LIFE, the arm is at 0.");
        ServerHouse h = new ServerHouse();
        Check.due("at first", h.count(4), 0);
        ServerHouse g = withFourBlocks();
        for (int life = 2; life <= 4; life++) {
            Check.asked(g, 4, Check.SEEK, 0, 24, 0);
            Check.asked(g, 4, Check.READ, 0, 0, 124);
            Check.due("the arm", g.count(4), 3);
            g.crash();
            Check.calm(g);
            Check.due("life", g.count(2), life);
            Check.due("the arm", g.count(4), 0);
        }
    }

    private static void crashTakesAll() {
        Check.sentence("A CRASH: the DRIVER doesn't live; its job, INBOX, arm, what was FULL are gone.");
        ServerHouse h = withFourBlocks();
        Check.asked(h, 4, Check.SEEK, 0, 0, 0);
        int start = Check.calm(h);
        h.call(4, Check.READ, 0, 0);
        Check.turnDone(h, start, 1, 1);
        Check.forceTimes(h, 0, 1, 12);
        Check.due("the inbox is full, with a job", h.inbox(1) + h.count(5), 13);
        Check.due("crash", h.crash(), true);
        Check.due("it doesn't live", h.count(3), 0);
        Check.due("no job", h.count(5), 0);
        Check.due("no message", h.inbox(1), 0);
        Check.due("no arm", h.count(4), 0);
        Check.due("the life is told as before", h.count(2), 1);
        Check.due("the disk stays", h.disk(3, 0), 124);
        Check.due("the files too", h.file(0, 0), 25);
        Check.turnDone(h, start, 4, 1);
        Check.due("the next life has no job", h.count(5), 0);
        Check.due("no message", h.inbox(1), 0);
    }

    private static void crashTakesWhatWasFull() {
        Check.sentence("A CRASH: .. what was FULL are gone.");
        ServerHouse h = new ServerHouse();
        Check.stepTo(h, 109);
        Check.forceTimes(h, 1, 0, 12);
        Check.stepTo(h, 110);
        Check.due("40 was taken, 41 is full", h.inbox(1), 0);
        h.crash();
        Check.stepTo(h, 145);
        Check.due("a new life", h.count(2), 2);
        Check.stepTo(h, 157);
        Check.due("the keeper has room again", h.inbox(0), 11);
        Check.stepTo(h, 158);
        Check.due("nothing comes of the life before", h.inbox(0), 11);
    }

    private static void crashTakesFullNumbers() {
        Check.sentence("A CRASH: .. what was FULL are gone.");
        ServerHouse h = new ServerHouse();
        Check.asked(h, 4, Check.OPEN, 0, 0, 0);
        h.call(4, Check.WRITE, 0, 5);
        Check.stepTo(h, 37);
        Check.forceTimes(h, 3, 2, 12);
        Check.stepTo(h, 38);
        Check.due("it was written", h.disk(0, 0), 5);
        Check.due("22 is full", h.message(2, 11, 1), 0);
        h.crash();
        Check.stepTo(h, 74);
        Check.due("the first turn of a new life", h.count(2), 2);
        for (int k = 0; k < 9; k++) {
            Check.due("no 22 of the life before", h.message(2, k, 1), 0);
        }
        Check.mail(h, 2, 9, 0, 42, 2);
        Check.due("which is the last", h.inbox(2), 10);
        Check.due("the write is not done", h.file(0, 0), 0);
        h.until(4, 1000);
        Check.due("but in that life", h.file(0, 0), 1);
    }
}
