import java.util.NoSuchElementException;
import java.util.Random;

/** Random runs of at most 512 calls: nothing but the document's exception is thrown, and counts agree. */
public final class RandomRunTest {
    private static final int RUNS = 8000;
    /** With the looks at the end, a run stays below the 512 calls of the document. */
    private static final int MOST_CALLS = 120;

    public static void main(String[] args) {
        for (int seed = 0; seed < RUNS; seed++) {
            Random random = new Random(seed);
            ServerHouse h = new ServerHouse();
            ServerHouse twin = new ServerHouse();
            int calls = 1 + random.nextInt(MOST_CALLS);
            for (int i = 0; i < calls; i++) {
                int[] call = new int[5];
                call[0] = random.nextInt(24);
                for (int k = 1; k < 5; k++) {
                    call[k] = number(random);
                }
                String got = answer(h, call);
                Check.due("the same calls, the same answers", got.equals(answer(twin, call)), true);
            }
            look(h, "run " + seed + ": ");
        }
        Check.end();
    }

    private static int number(Random random) {
        return random.nextInt(12) == 0 ? Check.WILD[random.nextInt(Check.WILD.length)] : random.nextInt(13);
    }

    private static String answer(ServerHouse h, int[] c) {
        try {
            switch (c[0]) {
                case 0:
                    return "" + h.steps(c[1]);
                case 1:
                    return "" + h.steps(12 * (c[1] & 63));
                case 2:
                    return "" + h.until(c[1], c[2]);
                case 3:
                    return "" + h.until(c[1], 12 * (c[2] & 63));
                case 4:
                    return "" + (c[2] == 0 ? h.crash() : c[2] == 1 ? h.hang() : h.inbox(c[1]));
                case 5:
                    return "" + h.force(c[1], c[2]);
                case 6:
                    return "" + h.user(c[1], c[2]);
                case 7:
                    return "" + h.descriptor(c[1], c[2], c[3]) + h.file(c[1], c[2]);
                case 8:
                    return "" + h.disk(c[1], c[2]);
                case 9:
                    return "" + h.message(c[1], c[2], c[3]);
                case 10:
                    return "" + h.count(c[1]);
                case 11:
                    return "" + h.call(c[1], c[2], c[3], c[4]);
                default:
                    return "" + h.call(4 + (c[1] & 7), kind(c), c[3] & 3, c[4]);
            }
        } catch (NoSuchElementException e) {
            return "none";
        }
    }

    /** Ends and kills are rarer than the rest, so that somebody lives on. */
    private static int kind(int[] c) {
        return c[2] == Check.EXIT && c[3] != 0 ? Check.WRITE : c[2];
    }

    private static void look(ServerHouse h, String where) {
        int living = 0;
        for (int u = 4; u < 12; u++) {
            living += h.user(u, 0) == 1 ? 1 : 0;
            Check.due(where + "a call of one that does not live", h.user(u, 0) != 1 && h.user(u, 1) == 1, false);
            Check.due(where + "inbox of one that does not live", h.user(u, 0) != 1 && h.inbox(u) > 0, false);
            lookAtDescriptors(h, u, where);
        }
        Check.due(where + "users that live", h.count(12), living);
        for (int p = 0; p < 12; p++) {
            Check.due(where + "inbox of " + p, h.inbox(p) >= 0 && h.inbox(p) <= 12, true);
        }
        Check.due(where + "whose turn", h.count(1), h.count(0) % 12);
        Check.due(where + "the arm", h.count(4) >= 0 && h.count(4) < 24, true);
        lookAtFiles(h, where);
    }

    private static void lookAtDescriptors(ServerHouse h, int u, String where) {
        int open = 0;
        for (int d = 0; d < 4; d++) {
            int f = h.descriptor(u, d, 0);
            if (f != -1) {
                open++;
                int place = h.descriptor(u, d, 1);
                Check.due(where + "a place in the file", place >= 0 && place <= h.file(f, 0), true);
            }
        }
        Check.due(where + "descriptors of " + u, h.user(u, 6), open);
    }

    private static void lookAtFiles(ServerHouse h, String where) {
        int files = 0;
        int blocks = 0;
        boolean[] seen = new boolean[24];
        for (int a = 0; a < 16; a++) {
            files += h.file(a, 0) == -1 ? 0 : 1;
            for (int i = 1; i <= 4; i++) {
                int b = h.file(a, i);
                Check.due(where + "block " + i + " of " + a, b != -1, h.file(a, 0) > 8 * (i - 1));
                if (b != -1) {
                    Check.due(where + "block " + b + " of two", seen[b], false);
                    seen[b] = true;
                    blocks++;
                }
            }
        }
        Check.due(where + "files", h.count(10), files);
        int making = 24 - blocks - h.count(11);
        Check.due(where + "blocks that are taken", making == 0 || making == 1 && h.count(6) == 1, true);
    }
}
