/** Promises 12 and 13: inbox and message. */
public final class InboxTest {
    public static void main(String[] args) {
        ServerHouse h = new ServerHouse();
        for (int x : Check.WILD) {
            if (x < 0 || x > 11) {
                Check.due("inbox(" + x + ")", h.inbox(x), -1);
                Check.due("message(" + x + ", 0, 0)", h.message(x, 0, 0), -1);
            }
        }
        Check.due("of one that never lived", h.inbox(11), 0);
        h.call(4, Check.SEEK, 123, -456);
        Check.due("inbox(2)", h.inbox(2), 1);
        Check.mail(h, 2, 0, 4, Check.SEEK, 123, -456, 0);
        for (int x : Check.WILD) {
            if (x != 0) {
                Check.due("message(2, " + x + ", 0)", h.message(2, x, 0), -1);
            }
            if (x < 0 || x > 4) {
                Check.due("message(2, 0, " + x + ")", h.message(2, 0, x), -1);
            }
        }
        inOrder();
        Check.end();
    }

    private static void inOrder() {
        ServerHouse h = new ServerHouse();
        h.force(3, 2);
        h.call(4, Check.WRITE, 8, 9);
        h.force(1, 2);
        h.force(0, 2);
        Check.due("inbox(2)", h.inbox(2), 4);
        Check.mail(h, 2, 0, 3, 0, 0, 0, 0);
        Check.mail(h, 2, 1, 4, Check.WRITE, 8, 9, 0);
        Check.mail(h, 2, 2, 1, 0, 0, 0, 0);
        Check.mail(h, 2, 3, 0, 0, 0, 0, 0);
        h.steps(3);
        Check.due("the first was taken", h.inbox(2), 3);
        Check.mail(h, 2, 0, 4, Check.WRITE, 8, 9, 0);
        Check.mail(h, 2, 2, 0, 0, 0, 0, 0);
        Check.mail(h, 2, 3, -1);
        Check.due("force to fill it", h.force(3, 2), 0);
        Check.mail(h, 2, 3, 3, 0, 0, 0, 0);
        h.steps(12);
        Check.mail(h, 4, 0, 2, 50, -8, 0, 0);
    }
}
