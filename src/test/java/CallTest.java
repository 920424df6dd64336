/** Promise 2: call. */
public final class CallTest {
    public static void main(String[] args) {
        servers();
        refusals();
        fullInbox();
        wildUsersAndKinds();
        Check.end();
    }

    private static void servers() {
        for (int kind = 1; kind <= 12; kind++) {
            ServerHouse h = new ServerHouse();
            int server = kind <= 7 ? 2 : 3;
            Check.due("call of kind " + kind, h.call(4, kind, -17, Integer.MAX_VALUE), 0);
            Check.due("inbox of its server", h.inbox(server), 1);
            Check.due("inbox of the other one", h.inbox(5 - server), 0);
            Check.mail(h, server, 0, 4, kind, -17, Integer.MAX_VALUE, 0);
            Check.due("it has a call", h.user(4, 1), 1);
            Check.due("the core let it through", h.count(13), 1);
            Check.due("no step was done", h.count(0), 0);
        }
    }

    private static void refusals() {
        ServerHouse h = new ServerHouse();
        Check.due("who does not live comes first", h.call(5, 99, 0, 0), 1);
        Check.due("kind 0", h.call(4, 0, 0, 0), 3);
        Check.due("kind 13", h.call(4, 13, 0, 0), 3);
        Check.due("no message went", h.count(13), 0);
        Check.due("a good one", h.call(4, Check.PARENT, 0, 0), 0);
        Check.due("a second one", h.call(4, Check.OPEN, 0, 0), 2);
        Check.due("a second one of no kind", h.call(4, -5, 0, 0), 2);
        h.steps(4);
        Check.due("it is answered, but did not take that yet", h.call(4, Check.OPEN, 0, 0), 2);
        h.steps(1);
        Check.due("now it did", h.call(4, Check.OPEN, 0, 0), 0);
    }

    private static void fullInbox() {
        ServerHouse h = new ServerHouse();
        Check.forceTimes(h, 3, 2, 12);
        Check.due("no such kind, ahead of full", h.call(4, 13, 0, 0), 3);
        Check.due("full", h.call(4, Check.OPEN, 0, 0), 4);
        Check.due("it has no call then", h.user(4, 1), 0);
        Check.due("the message is lost", h.count(13), 12);
        Check.due("the other server has room", h.call(4, Check.PARENT, 0, 0), 0);
        h.steps(5);
        Check.due("it was answered", h.user(4, 3), 1);
        Check.due("one place is free by now", h.call(4, Check.OPEN, 0, 0), 0);
        Check.mail(h, 2, 11, 4, Check.OPEN);
    }

    private static void wildUsersAndKinds() {
        ServerHouse h = new ServerHouse();
        for (int x : Check.WILD) {
            if (x != 4) {
                Check.due("call by " + x, h.call(x, 1, 0, 0), 1);
            }
            if (x < 1 || x > 12) {
                Check.due("call of kind " + x, h.call(4, x, 0, 0), 3);
            }
        }
        Check.due("none of these went", h.count(13), 0);
    }
}
