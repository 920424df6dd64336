/** Promise 4: until. */
public final class UntilTest {
    public static void main(String[] args) {
        ServerHouse h = new ServerHouse();
        Check.due("without a call", h.until(4, 20000), 0);
        Check.due("of one that never lived", h.until(11, 20000), 0);
        h.call(4, Check.OPEN, 0, 0);
        Check.due("until(4, 0)", h.until(4, 0), 0);
        Check.due("at most 4", h.until(4, 4), 4);
        Check.due("it has its call still", h.user(4, 1), 1);
        Check.due("one more", h.until(4, 20000), 1);
        Check.due("it has none now", h.user(4, 1), 0);
        Check.due("steps in all", h.count(0), 5);
        wrongInputs(h);
        endless();
        Check.end();
    }

    private static void wrongInputs(ServerHouse h) {
        h.call(4, Check.OPEN, 0, 0);
        for (int x : Check.WILD) {
            if (x < 4 || x > 11) {
                Check.due("until(" + x + ", 5)", h.until(x, 5), -1);
            }
            if (x < 0 || x > 20000) {
                Check.due("until(4, " + x + ")", h.until(4, x), -1);
            }
        }
        Check.due("no step was done", h.count(0), 5);
    }

    private static void endless() {
        ServerHouse h = new ServerHouse();
        Check.asked(h, 4, Check.FORK, 0, 0, 5);
        h.call(4, Check.WAIT, 0, 0);
        Check.due("nobody ends", h.until(4, 20000), 20000);
        Check.due("it waits still", h.user(4, 1), 1);
    }
}
