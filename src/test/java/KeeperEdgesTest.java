/** Terms 3 of the document, sentence by sentence: the keeper's turn. */
public final class KeeperEdgesTest {
    public static void main(String[] args) {
        thirdTurnStarts();
        everyTurnIsOfOneLife();
        aNewLife();
        newsOfTheLife();
        takesNothingWhileDead();
        firstMessageIsTaken();
        tenthTurnAsks();
        twentiethTurnAsksAgain();
        wellInTheVeryTurn();
        crashAtTheTwentieth();
        askedInAnotherLife();
        turnsWhileDeadCount();
        tenthTurnWhileDead();
        thirdTurnThatIsTheTenth();
        countsFromZero();
        crashByTheKeeperCounts();
        Check.end();
    }

    private static void thirdTurnStarts() {
        Check.sentence("if the DRIVER doesn't live: one more such; the third starts it anew");
        int[] crashedAt = {0, 1, 6, 11, 12};
        int[] startedAt = {25, 37, 37, 37, 37};
        for (int i = 0; i < crashedAt.length; i++) {
            ServerHouse h = new ServerHouse();
            h.steps(crashedAt[i]);
            h.crash();
            Check.stepTo(h, startedAt[i] - 12);
            Check.due("the second turn does not", h.count(3), 0);
            Check.stepTo(h, startedAt[i] - 1);
            Check.due("nor what follows it", h.count(3), 0);
            Check.stepTo(h, startedAt[i]);
            Check.due("the third does", h.count(3), 1);
        }
    }

    private static void everyTurnIsOfOneLife() {
        Check.sentence("The KEEPER counts from 0.");
        ServerHouse h = new ServerHouse();
        h.crash();
        Check.stepTo(h, 13);
        Check.due("a crash of the dead is none", h.crash(), false);
        Check.due("nor does it count anew", h.steps(12), 25);
        Check.due("the third turn starts it", h.count(3), 1);
    }

    private static void aNewLife() {
        Check.sentence("LIFE one more, no message, no job, not hanging");
        ServerHouse h = Check.withNumbers(1);
        int start = Check.calm(h);
        h.call(4, Check.WRITE, 0, 5);
        Check.turnDone(h, start, 1, 1);
        Check.forceTimes(h, 2, 1, 3);
        h.hang();
        Check.due("it hangs, with a job and messages", h.count(3) + h.count(5) + h.inbox(1), 2 + 1 + 3);
        h.crash();
        Check.turnDone(h, start, 4, 0);
        Check.due("life", h.count(2), 2);
        Check.due("no message", h.inbox(1), 0);
        Check.due("no job", h.count(5), 0);
        Check.due("not hanging", h.count(3), 1);
        for (int life = 3; life <= 6; life++) {
            h.crash();
            h.steps(36);
            Check.due("one more", h.count(2), life);
        }
    }

    private static void newsOfTheLife() {
        Check.sentence("42 goes to 2 with the LIFE's number");
        ServerHouse h = new ServerHouse();
        for (int life = 2; life <= 4; life++) {
            h.crash();
            h.steps(life == 2 ? 24 : 35);
            Check.due("not before", h.inbox(2), 0);
            h.steps(1);
            Check.mail(h, 2, 0, 0, 42, life, 0, 0, -1);
            Check.due("once", h.inbox(2), 1);
        }
    }

    private static void takesNothingWhileDead() {
        Check.sentence("If it lives: the first message of its INBOX is taken, if any");
        ServerHouse h = new ServerHouse();
        Check.forceTimes(h, 1, 0, 3);
        h.crash();
        Check.stepTo(h, 24);
        Check.due("while it is dead none", h.inbox(0), 3);
        Check.stepTo(h, 25);
        Check.due("nor in the turn that starts it", h.inbox(0), 3);
        Check.stepTo(h, 37);
        Check.due("then one in each turn", h.inbox(0), 2);
        Check.stepTo(h, 49);
        Check.due("then one in each turn", h.inbox(0), 1);
    }

    private static void firstMessageIsTaken() {
        Check.sentence("by a 41 the DRIVER is well");
        ServerHouse h = new ServerHouse();
        Check.stepTo(h, 109);
        Check.forceTimes(h, 1, 0, 1);
        Check.stepTo(h, 110);
        Check.mail(h, 0, 0, 1, 0);
        Check.mail(h, 0, 1, 1, 41);
        Check.stepTo(h, 121);
        Check.mail(h, 0, 0, 1, 41);
        Check.stepTo(h, 133);
        Check.due("both were taken", h.inbox(0), 0);
        h.hang();
        Check.stepTo(h, 229);
        Check.due("it was well: no crash", h.count(8), 0);
    }

    private static void tenthTurnAsks() {
        Check.sentence("if this is the 10th, 20th .. TURN of all that it had: .. else 40 goes to 1");
        ServerHouse h = new ServerHouse();
        Check.stepTo(h, 108);
        Check.due("not the 9th", h.count(13), 0);
        Check.stepTo(h, 109);
        Check.mail(h, 1, 0, 0, 40, 0, 0, 0, -1);
        Check.due("once", h.inbox(1), 1);
        Check.stepTo(h, 228);
        Check.due("not the 11th to 19th: 40 and 41", h.count(13), 2);
    }

    private static void twentiethTurnAsksAgain() {
        Check.sentence("if 40 was sent in this LIFE, and no 41 was taken since, the DRIVER crashes; else 40 goes to 1");
        ServerHouse h = new ServerHouse();
        for (int tens = 1; tens <= 5; tens++) {
            Check.stepTo(h, 120 * tens - 12);
            Check.due("nothing before", h.count(13), 2 * (tens - 1));
            Check.stepTo(h, 120 * tens - 11);
            Check.mail(h, 1, 0, 0, 40);
            Check.stepTo(h, 120 * tens - 10);
            Check.mail(h, 0, 0, 1, 41);
        }
        Check.due("no crash", h.count(8), 0);
        h.steps(20000);
        Check.due("nor ever", h.count(8), 0);
        Check.due("life", h.count(2), 1);
    }

    private static void wellInTheVeryTurn() {
        Check.sentence("the first message of its INBOX is taken, if any; by a 41 the DRIVER is well; then, if this is");
        ServerHouse h = new ServerHouse();
        Check.stepTo(h, 109);
        Check.forceTimes(h, 1, 0, 9);
        Check.stepTo(h, 228);
        Check.mail(h, 0, 0, 1, 41);
        Check.due("alone", h.inbox(0), 1);
        Check.stepTo(h, 229);
        Check.due("taken in the 20th turn: no crash", h.count(8), 0);
        Check.mail(h, 1, 0, 0, 40);
    }

    private static void crashAtTheTwentieth() {
        Check.sentence("if 40 was sent in this LIFE, and no 41 was taken since, the DRIVER crashes");
        ServerHouse h = new ServerHouse();
        h.hang();
        Check.stepTo(h, 109);
        Check.due("at the 10th it is asked", h.inbox(1), 1);
        Check.due("no crash", h.count(8), 0);
        Check.stepTo(h, 228);
        Check.due("nor up to the 19th", h.count(8), 0);
        Check.stepTo(h, 229);
        Check.due("at the 20th", h.count(8), 1);
        Check.due("it doesn't live", h.count(3), 0);
        Check.due("no second 40", h.count(13), 1);

        ServerHouse g = new ServerHouse();
        Check.stepTo(g, 109);
        Check.forceTimes(g, 1, 0, 11);
        Check.stepTo(g, 110);
        Check.mail(g, 0, 11, 1, 41);
        Check.stepTo(g, 229);
        Check.due("the 20th turn took a forced one", g.inbox(0), 2);
        Check.due("that was the turn", g.count(8), 0);
    }

    private static void askedInAnotherLife() {
        Check.sentence("if 40 was sent in this LIFE");
        ServerHouse h = new ServerHouse();
        h.hang();
        Check.stepTo(h, 120);
        h.crash();
        Check.stepTo(h, 228);
        Check.due("life", h.count(2), 2);
        Check.stepTo(h, 229);
        Check.due("no crash for the 40 of another one", h.count(8), 1);
        Check.mail(h, 1, 0, 0, 40);
        h.hang();
        Check.stepTo(h, 349);
        Check.due("but for one of this", h.count(8), 2);
    }

    private static void turnsWhileDeadCount() {
        Check.sentence("TURN of all that it had");
        ServerHouse h = new ServerHouse();
        h.crash();
        Check.stepTo(h, 30);
        h.crash();
        Check.stepTo(h, 61);
        Check.due("life", h.count(2), 3);
        Check.stepTo(h, 108);
        Check.due("no 40 yet", h.inbox(1), 0);
        Check.stepTo(h, 109);
        Check.mail(h, 1, 0, 0, 40);
    }

    private static void tenthTurnWhileDead() {
        Check.sentence("If it lives: .. then, if this is the 10th, 20th .. TURN");
        ServerHouse h = new ServerHouse();
        Check.stepTo(h, 100);
        h.crash();
        Check.stepTo(h, 109);
        Check.due("no 40 to the dead", h.count(13), 0);
        Check.stepTo(h, 133);
        Check.due("the third starts it", h.count(2), 2);
        Check.stepTo(h, 228);
        Check.due("42 alone went", h.count(13), 1);
        Check.stepTo(h, 229);
        Check.mail(h, 1, 0, 0, 40);
    }

    private static void thirdTurnThatIsTheTenth() {
        Check.sentence("if the DRIVER doesn't live: .. If it lives: ..");
        ServerHouse h = new ServerHouse();
        Check.stepTo(h, 84);
        h.crash();
        Check.stepTo(h, 109);
        Check.due("the 10th turn starts it", h.count(2), 2);
        Check.mail(h, 2, 0, 0, 42, 2);
        Check.due("and asks nothing", h.inbox(1), 0);
        Check.stepTo(h, 228);
        Check.due("nor up to the 19th", h.count(13), 1);
        Check.stepTo(h, 229);
        Check.mail(h, 1, 0, 0, 40);
    }

    private static void countsFromZero() {
        Check.sentence("A CRASH: .. The KEEPER counts from 0.");
        ServerHouse h = new ServerHouse();
        h.crash();
        Check.stepTo(h, 25);
        for (int life = 2; life <= 4; life++) {
            Check.due("life", h.count(2), life);
            h.crash();
            h.steps(35);
            Check.due("two turns are not enough", h.count(3), 0);
            h.steps(1);
            Check.due("three are", h.count(3), 1);
        }
    }

    private static void crashByTheKeeperCounts() {
        Check.sentence("A CRASH: .. The KEEPER counts from 0.");
        ServerHouse h = new ServerHouse();
        h.hang();
        Check.stepTo(h, 229);
        Check.due("it crashed", h.count(8), 1);
        Check.stepTo(h, 264);
        Check.due("that turn was none of the three", h.count(3), 0);
        Check.stepTo(h, 265);
        Check.due("the third behind it starts", h.count(3), 1);
        Check.due("life", h.count(2), 2);
    }
}
