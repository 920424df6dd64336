/** Promise 11: disk; and how the arm moves. */
public final class DiskTest {
    public static void main(String[] args) {
        ServerHouse h = new ServerHouse();
        for (int x : Check.WILD) {
            if (x < 0 || x > 23) {
                Check.missing("disk(" + x + ", 0)", () -> h.disk(x, 0));
            }
            if (x < 0 || x > 7) {
                Check.missing("disk(0, " + x + ")", () -> h.disk(0, x));
                Check.missing("disk(23, " + x + ")", () -> h.disk(23, x));
            }
        }
        writtenWhenTheArmIsThere();
        arm();
        Check.end();
    }

    private static void writtenWhenTheArmIsThere() {
        ServerHouse h = new ServerHouse();
        Check.asked(h, 4, Check.OPEN, 0, 0, 0);
        h.call(4, Check.WRITE, 0, 77);
        Check.stepTo(h, 15);
        Check.mail(h, 1, 0, 2, 21, 0, 0, 0);
        Check.stepTo(h, 26);
        Check.due("its job", h.count(5), 1);
        Check.stepTo(h, 37);
        Check.due("not written yet", h.disk(0, 0), 0);
        Check.stepTo(h, 38);
        Check.due("written", h.disk(0, 0), 77);
        Check.due("no job", h.count(5), 0);
        Check.mail(h, 2, 0, 1, 22, 0, 0, 0);
    }

    /** Two files of four blocks: a read at block 7, then one at block 0. */
    private static void arm() {
        ServerHouse h = new ServerHouse();
        for (int a = 0; a < 2; a++) {
            Check.asked(h, 4, Check.OPEN, a, 0, a);
            for (int i = 0; i < 32; i++) {
                h.call(4, Check.WRITE, a, 32 * a + i);
                h.until(4, 20000);
            }
        }
        Check.due("the arm", h.count(4), 7);
        Check.asked(h, 4, Check.SEEK, 0, 5, 0);
        h.call(4, Check.READ, 0, 0);
        for (int i = 0; i < 48 && h.count(5) == 0; i++) {
            h.steps(1);
        }
        for (int at = 7; at > 0; at--) {
            Check.due("the arm", h.count(4), at);
            for (int i = 0; i < 24 && h.count(4) == at; i++) {
                h.steps(1);
            }
        }
        Check.due("it is there, but the job is not done", h.count(5), 1);
        for (int i = 0; i < 24 && h.count(5) == 1; i++) {
            h.steps(1);
        }
        Check.due("the arm stays", h.count(4), 0);
        Check.due("no job", h.count(5), 0);
        h.until(4, 100);
        Check.due("the answer", h.user(4, 2), 5);
    }
}
