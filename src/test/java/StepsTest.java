/** Promise 3: steps; and the order of the turns. */
public final class StepsTest {
    public static void main(String[] args) {
        ServerHouse h = new ServerHouse();
        Check.due("steps(0)", h.steps(0), 0);
        for (int i = 1; i <= 30; i++) {
            Check.due("steps(1)", h.steps(1), i);
            Check.due("whose turn is next", h.count(1), i % 12);
        }
        Check.due("steps(20000)", h.steps(20000), 20030);
        for (int x : Check.WILD) {
            if (x < 0 || x > 20000) {
                Check.due("steps(" + x + ")", h.steps(x), -1);
            }
        }
        Check.due("steps in all after that", h.count(0), 20030);
        order();
        whoDoesNotLivePasses();
        Check.end();
    }

    private static void order() {
        ServerHouse h = new ServerHouse();
        int[][] pairs = {{1, 0}, {0, 1}, {0, 2}, {2, 3}, {2, 4}};
        for (int[] pair : pairs) {
            Check.due("force to " + pair[1], h.force(pair[0], pair[1]), 0);
        }
        for (int part = 0; part <= 4; part++) {
            Check.due("inbox ahead of the turn of " + part, h.inbox(part), 1);
            h.steps(1);
            Check.due("inbox behind the turn of " + part, h.inbox(part), 0);
        }
    }

    private static void whoDoesNotLivePasses() {
        ServerHouse h = new ServerHouse();
        Check.asked(h, 4, Check.EXIT + 3, 0, 0, 0);
        h.call(4, Check.EXIT, 0, 0);
        h.steps(100);
        Check.due("nobody lives", h.count(12), 0);
        Check.due("steps go on", h.steps(12), 117);
    }
}
