/** Promise 14: count. */
public final class CountTest {
    public static void main(String[] args) {
        ServerHouse h = new ServerHouse();
        for (int x : Check.WILD) {
            if (x < 0 || x > 13) {
                Check.due("count(" + x + ")", h.count(x), -1);
            }
        }
        Check.due("count(14)", h.count(14), -1);
        aWriteSeenThrough();
        messages();
        Check.end();
    }

    private static void aWriteSeenThrough() {
        ServerHouse h = Check.withNumbers(8);
        // Behind a tenth turn of the keeper, so that no 40 comes between.
        int from = h.count(0) / 120 * 120 + 120;
        int[] whats = {4, 5, 6, 11};
        int[] steps = {from + 2, from + 3, from + 13, from + 14, from + 26, from + 38, from + 39};
        int[][] due = {{0, 0, 0, 23}, {0, 0, 1, 22}, {0, 0, 1, 22}, {0, 1, 1, 22}, {1, 1, 1, 22}, {1, 0, 1, 22},
            {1, 0, 0, 22}};
        Check.stepTo(h, from);
        h.call(4, Check.WRITE, 0, 1);
        for (int i = 0; i < steps.length; i++) {
            Check.stepTo(h, steps[i]);
            for (int k = 0; k < whats.length; k++) {
                Check.due("count(" + whats[k] + ") at step " + (steps[i] - from), h.count(whats[k]), due[i][k]);
            }
        }
    }

    private static void messages() {
        ServerHouse h = new ServerHouse();
        Check.asked(h, 4, Check.OPEN, 0, 0, 0);
        Check.due("call and answer", h.count(13), 2);
        Check.asked(h, 4, Check.FORK, 0, 0, 5);
        Check.due("call, 30, 32, answer", h.count(13), 6);
        h.call(5, Check.EXIT, 0, 0);
        h.steps(48);
        Check.due("call, 31, 32", h.count(13), 9);
        Check.due("nothing was forbidden", h.count(9), 0);
        Check.due("users that live", h.count(12), 1);
        h.force(4, 0);
        h.force(4, 1);
        Check.due("forbidden", h.count(9), 2);
        Check.due("not let through", h.count(13), 9);
    }
}
