import java.util.NoSuchElementException;

/** What the tests share: they tell each answer that is not the one that is due, and end with 1 then. */
final class Check {
    static final int OPEN = 1;
    static final int CLOSE = 2;
    static final int READ = 3;
    static final int WRITE = 4;
    static final int SEEK = 5;
    static final int REMOVE = 6;
    static final int SIZE = 7;
    static final int FORK = 8;
    static final int EXIT = 9;
    static final int WAIT = 10;
    static final int KILL = 11;
    static final int PARENT = 12;
    /** Numbers that lie outside of every range of the document, or at its edges. */
    static final int[] WILD = {
        Integer.MIN_VALUE, Integer.MIN_VALUE + 1, -257, -256, -2, -1, 0, 1, 2, 3, 4, 5, 7, 8, 11, 12, 13, 15, 16,
        23, 24, 31, 32, 33, 255, 256, 20001, Integer.MAX_VALUE - 1, Integer.MAX_VALUE
    };

    private static int wrong = 0;
    private static int looked = 0;
    private static String words = "";

    private Check() {
    }

    interface Act {
        int run();
    }

    /** The words of the document that the answers from here on are held against. */
    static void sentence(String ofTheDocument) {
        words = "\"" + ofTheDocument + "\": ";
    }

    static void due(String what, long got, long want) {
        looked++;
        if (got != want) {
            wrong++;
            System.out.println(words + what + " answered " + got + ", due is " + want);
        }
    }

    static void due(String what, boolean got, boolean want) {
        due(what, got ? 1 : 0, want ? 1 : 0);
    }

    static void missing(String what, Act act) {
        int thrown = 0;
        try {
            act.run();
        } catch (NoSuchElementException e) {
            thrown = 1;
        }
        due(what + " throws NoSuchElementException", thrown, 1);
    }

    /** Makes a call and lets the house go on until it is answered. */
    static int ask(ServerHouse h, int u, int kind, int a, int b) {
        int before = h.user(u, 3);
        due("call(" + u + ", " + kind + ", " + a + ", " + b + ")", h.call(u, kind, a, b), 0);
        h.until(u, 20000);
        due("answers to user " + u, h.user(u, 3), before + 1);
        return h.user(u, 2);
    }

    static void asked(ServerHouse h, int u, int kind, int a, int b, int want) {
        due("the answer to " + kind + " " + a + " " + b + " of user " + u, ask(h, u, kind, a, b), want);
    }

    /** A house whose user 4 has file 0 open with the numbers 100, 101, .. written to it. */
    static ServerHouse withNumbers(int numbers) {
        ServerHouse h = new ServerHouse();
        asked(h, 4, OPEN, 0, 0, 0);
        for (int i = 0; i < numbers; i++) {
            asked(h, 4, WRITE, 0, 100 + i, 0);
        }
        return h;
    }

    /** A house in which all users live, 5 to 11 as children of 4. */
    static ServerHouse withFamily() {
        ServerHouse h = new ServerHouse();
        for (int child = 5; child <= 11; child++) {
            asked(h, 4, FORK, 0, 0, child);
        }
        return h;
    }

    /** Writes with as few calls as can be, for tests that would come near the 512th. */
    static void write(ServerHouse h, int u, int d, int v) {
        h.call(u, WRITE, d, v);
        h.until(u, 20000);
    }

    /**
     * Goes on to the beginning of a round, and tells its step: the 41 was taken, and the keeper's next 40 goes in
     * round 8 from there (0 the first).
     */
    static int calm(ServerHouse h) {
        int start = (h.count(0) / 120 + 1) * 120 + 12;
        stepTo(h, start);
        return start;
    }

    /** Up to a part's turn in the given round (0 the first) from a start; that turn is the next then. */
    static void turnDue(ServerHouse h, int start, int round, int part) {
        stepTo(h, start + 12 * round + part);
    }

    /** Up to and with that turn. */
    static void turnDone(ServerHouse h, int start, int round, int part) {
        stepTo(h, start + 12 * round + part + 1);
    }

    static void forceTimes(ServerHouse h, int from, int to, int times) {
        for (int i = 0; i < times; i++) {
            due("force(" + from + ", " + to + ") no. " + i, h.force(from, to), 0);
        }
    }

    /** Steps until this many have been done in all. */
    static void stepTo(ServerHouse h, int all) {
        due("steps up to " + all, h.steps(all - h.count(0)), all);
    }

    /** What message k of an inbox holds: sender, kind, its three numbers. */
    static void mail(ServerHouse h, int part, int k, int... want) {
        for (int i = 0; i < want.length; i++) {
            due("message(" + part + ", " + k + ", " + i + ")", h.message(part, k, i), want[i]);
        }
    }

    static void end() {
        System.out.println(wrong == 0 ? looked + " answers are as due" : wrong + " of " + looked + " are not as due");
        if (wrong != 0 || looked == 0) {
            System.exit(1);
        }
    }
}
