/** Promise 9: descriptor; and the calls of the file server that need no block. */
public final class DescriptorTest {
    public static void main(String[] args) {
        none();
        opening();
        tooManyFiles();
        seeking();
        notOpen();
        Check.end();
    }

    private static void none() {
        ServerHouse h = new ServerHouse();
        Check.asked(h, 4, Check.OPEN, 15, 0, 0);
        for (int x : Check.WILD) {
            if (x != 4) {
                Check.due("descriptor(" + x + ", 0, 0)", h.descriptor(x, 0, 0), -1);
                Check.due("descriptor(" + x + ", 0, 1)", h.descriptor(x, 0, 1), -1);
            }
            if (x != 0) {
                Check.due("descriptor(4, " + x + ", 0)", h.descriptor(4, x, 0), -1);
                Check.due("descriptor(4, " + x + ", 1)", h.descriptor(4, x, 1), -1);
            }
            if (x != 0 && x != 1) {
                Check.due("descriptor(4, 0, " + x + ")", h.descriptor(4, 0, x), -1);
            }
        }
        Check.due("descriptor(4, 0, 0)", h.descriptor(4, 0, 0), 15);
        Check.due("descriptor(4, 0, 1)", h.descriptor(4, 0, 1), 0);
    }

    private static void opening() {
        ServerHouse h = new ServerHouse();
        for (int x : Check.WILD) {
            if (x < 0 || x > 15) {
                Check.asked(h, 4, Check.OPEN, x, 0, -1);
            }
        }
        for (int d = 0; d < 4; d++) {
            Check.asked(h, 4, Check.OPEN, d == 3 ? 0 : d, 0, d);
        }
        Check.due("files", h.count(10), 3);
        Check.due("descriptors", h.user(4, 6), 4);
        Check.asked(h, 4, Check.OPEN, 5, 0, -2);
        Check.asked(h, 4, Check.OPEN, 16, 0, -1);
        Check.due("no file was made", h.file(5, 0), -1);
        Check.asked(h, 4, Check.CLOSE, 2, 0, 0);
        Check.asked(h, 4, Check.CLOSE, 1, 0, 0);
        Check.due("closed", h.descriptor(4, 1, 0), -1);
        Check.asked(h, 4, Check.OPEN, 9, 0, 1);
        Check.due("the file", h.descriptor(4, 1, 0), 9);
        Check.asked(h, 4, Check.WRITE, 0, 1, 0);
        Check.due("its place", h.descriptor(4, 0, 1), 1);
        Check.due("another descriptor of that file has its own", h.descriptor(4, 3, 1), 0);
    }

    private static void tooManyFiles() {
        ServerHouse h = new ServerHouse();
        for (int a = 0; a < 8; a++) {
            Check.asked(h, 4, Check.OPEN, 2 * a, 0, 0);
            Check.asked(h, 4, Check.CLOSE, 0, 0, 0);
        }
        Check.due("files", h.count(10), 8);
        Check.asked(h, 4, Check.OPEN, 1, 0, -3);
        Check.asked(h, 4, Check.OPEN, 14, 0, 0);
        Check.asked(h, 4, Check.OPEN, 14, 0, 1);
        Check.asked(h, 4, Check.OPEN, 14, 0, 2);
        Check.asked(h, 4, Check.OPEN, 14, 0, 3);
        Check.asked(h, 4, Check.OPEN, 1, 0, -2);
        Check.asked(h, 4, Check.CLOSE, 2, 0, 0);
        Check.asked(h, 4, Check.REMOVE, 0, 0, 0);
        Check.asked(h, 4, Check.OPEN, 1, 0, 2);
    }

    private static void seeking() {
        ServerHouse h = Check.withNumbers(3);
        for (int x : Check.WILD) {
            Check.asked(h, 4, Check.SEEK, 0, x, x >= 0 && x <= 3 ? 0 : -1);
            if (x >= 0 && x <= 3) {
                Check.due("the place", h.descriptor(4, 0, 1), x);
            }
        }
        Check.due("the place stays", h.descriptor(4, 0, 1), 3);
        Check.asked(h, 4, Check.SIZE, 0, 0, 3);
    }

    private static void notOpen() {
        ServerHouse h = new ServerHouse();
        Check.asked(h, 4, Check.OPEN, 0, 0, 0);
        int[] kinds = {Check.CLOSE, Check.READ, Check.WRITE, Check.SEEK, Check.SIZE};
        for (int kind : kinds) {
            Check.asked(h, 4, kind, -1, -1, -8);
            Check.asked(h, 4, kind, 1, -1, -8);
            Check.asked(h, 4, kind, 4, -1, -8);
            Check.asked(h, 4, kind, Integer.MIN_VALUE, -1, -8);
            Check.asked(h, 4, kind, Integer.MAX_VALUE, -1, -8);
        }
        Check.asked(h, 4, Check.CLOSE, 0, 0, 0);
        Check.asked(h, 4, Check.CLOSE, 0, 0, -8);
    }
}
