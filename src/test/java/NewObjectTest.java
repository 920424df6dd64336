/** Promise 1: a new object. */
public final class NewObjectTest {
    public static void main(String[] args) {
        ServerHouse h = new ServerHouse();
        int[] counts = {0, 0, 1, 1, 0, 0, 0, 0, 0, 0, 0, 24, 1, 0};
        for (int what = 0; what < counts.length; what++) {
            Check.due("count(" + what + ")", h.count(what), counts[what]);
        }
        for (int u = 4; u <= 11; u++) {
            int[] due = {u == 4 ? 1 : 0, 0, 0, 0, -1, 0, 0};
            for (int what = 0; what < due.length; what++) {
                Check.due("user(" + u + ", " + what + ")", h.user(u, what), due[what]);
            }
            Check.due("descriptor(" + u + ", 0, 0)", h.descriptor(u, 0, 0), -1);
        }
        for (int p = 0; p < 12; p++) {
            Check.due("inbox(" + p + ")", h.inbox(p), 0);
            Check.due("force(" + p + ", " + p + ")", h.force(p, p), p <= 4 ? 1 : -1);
        }
        for (int a = 0; a < 16; a++) {
            Check.due("file(" + a + ", 0)", h.file(a, 0), -1);
        }
        for (int i = 0; i < 24 * 8; i++) {
            Check.due("disk(" + i / 8 + ", " + i % 8 + ")", h.disk(i / 8, i % 8), 0);
        }
        twoHousesShareNothing();
        Check.end();
    }

    private static void twoHousesShareNothing() {
        ServerHouse one = new ServerHouse();
        ServerHouse other = new ServerHouse();
        Check.asked(one, 4, Check.OPEN, 1, 0, 0);
        Check.asked(one, 4, Check.WRITE, 0, 5, 0);
        one.crash();
        Check.due("the other's file", other.file(1, 0), -1);
        Check.due("the other's disk", other.disk(0, 0), 0);
        Check.due("the other's driver", other.count(3), 1);
        Check.due("the other's steps", other.count(0), 0);
    }
}
