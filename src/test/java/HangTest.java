/** Promise 6: hang; and how the keeper finds a driver that hangs. */
public final class HangTest {
    public static void main(String[] args) {
        answers();
        wellDriverGoesOn();
        hangsWithJob();
        hangsBehindItsAnswer();
        noRoomForAsking();
        askedAheadOfJob();
        forcedTurnAsksNothing();
        forcedTurnBreaksNothing();
        forcedOnesWaitWhileDead();
        wellDriverSendsAgain();
        hangingKeepsItsAnswer();
        hangingKeepsItsNumbers();
        crashTakesWhatWasKept();
        turnsOfSendingAgainCount();
        Check.end();
    }

    private static void answers() {
        ServerHouse h = new ServerHouse();
        Check.due("hang", h.hang(), true);
        Check.due("it hangs", h.count(3), 2);
        Check.due("hang again", h.hang(), false);
        Check.due("no crash of itself", h.count(8), 0);
        h.crash();
        Check.due("hang of the dead", h.hang(), false);
        h.steps(25);
        Check.due("a new life does not hang", h.count(3), 1);
        Check.due("it may hang again", h.hang(), true);
    }

    private static void wellDriverGoesOn() {
        ServerHouse h = new ServerHouse();
        Check.stepTo(h, 108);
        Check.due("nine turns: nothing was sent", h.count(13), 0);
        Check.stepTo(h, 109);
        Check.mail(h, 1, 0, 0, 40, 0, 0, 0);
        Check.stepTo(h, 110);
        Check.due("it took the 40", h.inbox(1), 0);
        Check.mail(h, 0, 0, 1, 41, 0, 0, 0);
        Check.stepTo(h, 121);
        Check.due("the keeper took the 41", h.inbox(0), 0);
        Check.stepTo(h, 12 * 1000);
        Check.due("it never crashed", h.count(8), 0);
        Check.due("40 and 41 at every tenth turn", h.count(13), 200);
    }

    private static void hangsWithJob() {
        ServerHouse h = new ServerHouse();
        Check.asked(h, 4, Check.OPEN, 0, 0, 0);
        h.call(4, Check.WRITE, 0, 3);
        Check.stepTo(h, 26);
        Check.due("it has a job", h.count(5), 1);
        h.hang();
        Check.stepTo(h, 228);
        Check.due("nothing was done", h.disk(0, 0), 0);
        Check.due("it has its job still", h.count(5), 1);
        Check.stepTo(h, 229);
        Check.due("the keeper let it crash", h.count(3), 0);
        Check.due("crashes", h.count(8), 1);
        h.until(4, 20000);
        Check.due("all was done in the next life", h.disk(0, 0), 3);
        Check.due("life", h.count(2), 2);
    }

    private static void hangsBehindItsAnswer() {
        ServerHouse h = new ServerHouse();
        Check.stepTo(h, 110);
        h.hang();
        Check.stepTo(h, 229);
        Check.due("41 was taken: no crash at the 20th turn", h.count(8), 0);
        Check.mail(h, 1, 0, 0, 40);
        Check.stepTo(h, 348);
        Check.due("not ahead of the 30th", h.count(8), 0);
        Check.stepTo(h, 349);
        Check.due("crash at the 30th", h.count(8), 1);
    }

    private static void noRoomForAsking() {
        ServerHouse h = new ServerHouse();
        h.hang();
        Check.stepTo(h, 108);
        Check.forceTimes(h, 0, 1, 12);
        Check.stepTo(h, 12 * 60);
        Check.due("the keeper can but send 40 again", h.count(8), 0);
        Check.due("which never went", h.count(13), 12);
        h.crash();
        Check.stepTo(h, 12 * 60 + 36);
        Check.due("the turn at which it is dead is the last of these", h.count(3), 0);
        Check.stepTo(h, 12 * 60 + 37);
        Check.due("then three", h.count(2), 2);
    }

    private static void askedAheadOfJob() {
        ServerHouse h = new ServerHouse();
        Check.asked(h, 4, Check.OPEN, 0, 0, 0);
        Check.stepTo(h, 96);
        h.call(4, Check.WRITE, 0, 3);
        Check.stepTo(h, 108);
        Check.mail(h, 1, 0, 2, 21);
        Check.forceTimes(h, 2, 1, 2);
        Check.stepTo(h, 110);
        Check.due("40 was the last, and is taken first", h.inbox(1), 3);
        Check.mail(h, 1, 0, 2, 21);
        Check.due("no job yet", h.count(5), 0);
        Check.stepTo(h, 122);
        Check.due("now its job", h.count(5), 1);
        Check.due("forced ones wait", h.inbox(1), 2);
        Check.stepTo(h, 134);
        Check.due("the job is done ahead of forced ones", h.inbox(1), 2);
        Check.due("on the disk", h.disk(0, 0), 3);
        Check.stepTo(h, 146);
        Check.due("then a forced one is taken", h.inbox(1), 1);
    }

    private static void forcedTurnAsksNothing() {
        ServerHouse h = new ServerHouse();
        Check.stepTo(h, 108);
        Check.forceTimes(h, 1, 0, 2);
        Check.stepTo(h, 109);
        Check.due("throwing one away was the 10th turn", h.inbox(0), 1);
        Check.due("no 40 in it", h.inbox(1), 0);
        Check.stepTo(h, 121);
        Check.due("the other one in the 11th", h.inbox(0), 0);
        Check.stepTo(h, 228);
        Check.due("no 40 ahead of the 20th turn", h.count(13), 2);
        Check.stepTo(h, 229);
        Check.mail(h, 1, 0, 0, 40, 0, 0, 0);

        ServerHouse g = new ServerHouse();
        Check.stepTo(g, 96);
        Check.forceTimes(g, 1, 0, 1);
        Check.stepTo(g, 109);
        Check.mail(g, 1, 0, 0, 40, 0, 0, 0);
    }

    private static void forcedTurnBreaksNothing() {
        ServerHouse h = new ServerHouse();
        h.hang();
        Check.stepTo(h, 228);
        Check.mail(h, 1, 0, 0, 40);
        Check.forceTimes(h, 1, 0, 1);
        Check.stepTo(h, 229);
        Check.due("the forced one is gone", h.inbox(0), 0);
        Check.due("no crash at the 20th turn", h.count(8), 0);
        Check.due("it hangs on", h.count(3), 2);
        Check.due("nor another 40", h.inbox(1), 1);
        Check.stepTo(h, 348);
        Check.due("no crash ahead of the 30th", h.count(8), 0);
        Check.stepTo(h, 349);
        Check.due("crash at the 30th", h.count(8), 1);
    }

    private static void forcedOnesWaitWhileDead() {
        ServerHouse h = new ServerHouse();
        Check.stepTo(h, 72);
        Check.forceTimes(h, 1, 0, 2);
        h.crash();
        Check.stepTo(h, 97);
        Check.due("none was taken, and the third turn starts it", h.count(2), 2);
        Check.due("they are there still", h.inbox(0), 2);
        Check.stepTo(h, 109);
        Check.due("the 10th turn takes the first", h.inbox(0), 1);
        Check.due("and asks nothing", h.inbox(1), 0);
    }

    /** A house after step 110: the driver holds a 41 for which the keeper's inbox had no room. */
    private static ServerHouse withKeptAnswer() {
        ServerHouse h = new ServerHouse();
        Check.stepTo(h, 109);
        Check.forceTimes(h, 1, 0, 12);
        Check.stepTo(h, 110);
        Check.due("40 was taken", h.inbox(1), 0);
        Check.due("41 found no room", h.count(13), 13);
        return h;
    }

    private static void wellDriverSendsAgain() {
        ServerHouse h = withKeptAnswer();
        Check.stepTo(h, 121);
        Check.due("the keeper took one", h.inbox(0), 11);
        Check.stepTo(h, 122);
        Check.due("one that does not hang sends it again", h.inbox(0), 12);
        Check.mail(h, 0, 11, 1, 41, 0, 0, 0);
    }

    private static void hangingKeepsItsAnswer() {
        ServerHouse h = withKeptAnswer();
        h.hang();
        for (int left = 11; left >= 0; left--) {
            Check.stepTo(h, 121 + 12 * (11 - left));
            Check.due("the keeper took one", h.inbox(0), left);
            h.steps(1);
            Check.due("one that hangs sends nothing again", h.inbox(0), left);
        }
        Check.due("nothing went in all these turns", h.count(13), 13);
        Check.stepTo(h, 348);
        Check.due("it hangs on", h.count(3), 2);
        Check.due("no crash at the 20th turn, which took a forced one", h.count(8), 0);
        Check.stepTo(h, 349);
        Check.due("no 41 came: crash at the 30th", h.count(8), 1);
        Check.stepTo(h, 385);
        Check.due("a new life", h.count(2), 2);
        Check.due("42 alone was sent", h.count(13), 14);
        Check.stepTo(h, 468);
        Check.due("it does not hold the 41 of the life before", h.inbox(0), 0);
        Check.due("nor did it send it", h.count(13), 14);
    }

    /** A house after step 38: the driver has written a block, and holds the 22 for it. */
    private static ServerHouse withKeptNumbers() {
        ServerHouse h = new ServerHouse();
        Check.asked(h, 4, Check.OPEN, 0, 0, 0);
        h.call(4, Check.WRITE, 0, 3);
        Check.stepTo(h, 37);
        Check.due("it has a job", h.count(5), 1);
        Check.forceTimes(h, 3, 2, 12);
        Check.stepTo(h, 38);
        Check.due("the job is done", h.count(5), 0);
        Check.due("on the disk", h.disk(0, 0), 3);
        Check.mail(h, 2, 11, 3, 0);
        return h;
    }

    private static void hangingKeepsItsNumbers() {
        ServerHouse well = withKeptNumbers();
        Check.stepTo(well, 50);
        Check.mail(well, 2, 11, 1, 22);

        ServerHouse h = withKeptNumbers();
        int passed = h.count(13);
        h.hang();
        Check.stepTo(h, 39);
        Check.due("the file server took one", h.inbox(2), 11);
        Check.stepTo(h, 50);
        Check.due("one that hangs sends no 22 again", h.inbox(2), 11);
        Check.stepTo(h, 228);
        Check.due("the forced ones are gone, and no 22 came", h.inbox(2), 0);
        Check.due("only 40 was sent", h.count(13), passed + 1);
        Check.due("the file server waits", h.count(6), 1);
        Check.due("the write is not done", h.file(0, 0), 0);
        Check.stepTo(h, 229);
        Check.due("crash at the 20th turn", h.count(8), 1);
        h.until(4, 20000);
        Check.due("the write is done in the next life", h.count(2), 2);
        Check.due("its answer", h.user(4, 2), 0);
        Check.due("size", h.file(0, 0), 1);
    }

    private static void crashTakesWhatWasKept() {
        ServerHouse h = withKeptAnswer();
        h.hang();
        Check.stepTo(h, 120);
        h.crash();
        Check.stepTo(h, 145);
        Check.due("a new life does not hang", h.count(3), 1);
        Check.due("forced ones stayed while it was dead", h.inbox(0), 12);
        Check.stepTo(h, 157);
        Check.due("the keeper took one", h.inbox(0), 11);
        Check.stepTo(h, 158);
        Check.due("what was kept is gone", h.inbox(0), 11);
    }

    private static void turnsOfSendingAgainCount() {
        ServerHouse h = new ServerHouse();
        h.crash();
        Check.stepTo(h, 24);
        Check.forceTimes(h, 3, 2, 12);
        Check.stepTo(h, 25);
        Check.due("the third turn starts it", h.count(2), 2);
        Check.due("42 found no room", h.count(13), 12);
        Check.stepTo(h, 37);
        Check.mail(h, 2, 11, 0, 42, 2, 0, 0);
        Check.stepTo(h, 108);
        Check.due("no 40 yet", h.inbox(1), 0);
        Check.stepTo(h, 109);
        Check.mail(h, 1, 0, 0, 40, 0, 0, 0);
    }
}
