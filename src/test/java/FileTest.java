/** Promise 10: file; and reading, writing and removing. */
public final class FileTest {
    public static void main(String[] args) {
        none();
        fillAFile();
        readAFile();
        sizeGrowsLast();
        writeInTheMiddle();
        removing();
        removingOthersStay();
        fillTheDisk();
        Check.end();
    }

    private static void none() {
        ServerHouse h = Check.withNumbers(1);
        for (int x : Check.WILD) {
            if (x != 0) {
                Check.due("file(" + x + ", 0)", h.file(x, 0), -1);
                Check.due("file(" + x + ", 1)", h.file(x, 1), -1);
            }
            if (x != 0 && x != 1) {
                Check.due("file(0, " + x + ")", h.file(0, x), -1);
            }
        }
        Check.due("file(0, 0)", h.file(0, 0), 1);
        Check.due("file(0, 1)", h.file(0, 1), 0);
    }

    private static void fillAFile() {
        ServerHouse h = new ServerHouse();
        Check.asked(h, 4, Check.OPEN, 15, 0, 0);
        for (int i = 0; i < 32; i++) {
            Check.asked(h, 4, Check.WRITE, 0, 1000 - i, 0);
            Check.due("size", h.file(15, 0), i + 1);
            Check.due("place", h.descriptor(4, 0, 1), i + 1);
            for (int b = 1; b <= 4; b++) {
                Check.due("block " + b, h.file(15, b), b <= i / 8 + 1 ? b - 1 : -1);
            }
        }
        Check.asked(h, 4, Check.WRITE, 0, 5, -4);
        Check.asked(h, 4, Check.READ, 0, 0, -5);
    }

    private static void readAFile() {
        ServerHouse h = new ServerHouse();
        Check.asked(h, 4, Check.OPEN, 15, 0, 0);
        for (int i = 0; i < 32; i++) {
            Check.write(h, 4, 0, 1000 - i);
        }
        Check.asked(h, 4, Check.SEEK, 0, 0, 0);
        for (int i = 0; i < 32; i++) {
            Check.asked(h, 4, Check.READ, 0, 0, 1000 - i);
            Check.due("on the disk", h.disk(i / 8, i % 8), 1000 - i);
        }
        Check.asked(h, 4, Check.READ, 0, 0, -5);
        Check.due("place", h.descriptor(4, 0, 1), 32);
    }

    private static void sizeGrowsLast() {
        ServerHouse h = Check.withNumbers(8);
        h.call(4, Check.WRITE, 0, 7);
        for (int i = 0; i < 100 && h.count(6) == 0; i++) {
            h.steps(1);
        }
        Check.due("a block was taken", h.count(11), 22);
        Check.due("the size", h.file(0, 0), 8);
        Check.due("the block is not seen yet", h.file(0, 2), -1);
        Check.due("the place", h.descriptor(4, 0, 1), 8);
        for (int i = 0; i < 100 && h.count(6) == 1; i++) {
            h.steps(1);
        }
        Check.due("the size grew", h.file(0, 0), 9);
        Check.due("the block is seen", h.file(0, 2), 1);
        Check.due("the place went on", h.descriptor(4, 0, 1), 9);
        Check.mail(h, 4, 0, 2, 50, 0, 0, 0);
    }

    private static void writeInTheMiddle() {
        ServerHouse h = Check.withNumbers(10);
        Check.asked(h, 4, Check.SEEK, 0, 3, 0);
        h.call(4, Check.WRITE, 0, Integer.MIN_VALUE);
        for (int i = 0; i < 100 && h.count(6) == 0; i++) {
            h.steps(1);
        }
        Check.mail(h, 1, 0, 2, 20, 0, 0, 0);
        int stored = 0;
        for (int i = 0; i < 200 && h.count(6) == 1; i++) {
            h.steps(1);
            stored += h.count(1) == 3 && h.message(1, 0, 1) == 21 ? 1 : 0;
        }
        Check.due("it was stored once", stored, 1);
        Check.due("size", h.file(0, 0), 10);
        Check.due("place", h.descriptor(4, 0, 1), 4);
        for (int i = 0; i < 8; i++) {
            Check.due("disk(0, " + i + ")", h.disk(0, i), i == 3 ? Integer.MIN_VALUE : 100 + i);
        }
        Check.due("disk(1, 1)", h.disk(1, 1), 109);
        h.until(4, 100);
        Check.asked(h, 4, Check.READ, 0, 0, 104);
    }

    private static void removing() {
        ServerHouse h = Check.withNumbers(17);
        Check.asked(h, 4, Check.OPEN, 1, 0, 1);
        Check.asked(h, 4, Check.WRITE, 1, 1, 0);
        Check.due("the second file's block", h.file(1, 1), 3);
        Check.asked(h, 4, Check.REMOVE, 0, 0, -7);
        for (int x : Check.WILD) {
            if (x != 0 && x != 1) {
                Check.asked(h, 4, Check.REMOVE, x, 0, -1);
            }
        }
        Check.asked(h, 4, Check.FORK, 0, 0, 5);
        Check.asked(h, 4, Check.CLOSE, 0, 0, 0);
        Check.asked(h, 4, Check.REMOVE, 0, 0, -7);
        Check.asked(h, 5, Check.CLOSE, 0, 0, 0);
        Check.asked(h, 4, Check.REMOVE, 0, 0, 0);
        Check.due("it is gone", h.file(0, 0), -1);
        Check.due("files", h.count(10), 1);
        Check.due("its blocks are free", h.count(11), 23);
        Check.due("the disk stays", h.disk(0, 1), 101);
        Check.asked(h, 4, Check.OPEN, 0, 0, 0);
        Check.due("it is empty now", h.file(0, 0), 0);
        Check.asked(h, 4, Check.WRITE, 0, 9, 0);
        Check.due("the least block that is free", h.file(0, 1), 0);
        Check.due("its first number", h.disk(0, 0), 9);
        for (int k = 1; k < 8; k++) {
            Check.due("the others are 0", h.disk(0, k), 0);
        }
        Check.due("the next block stays", h.disk(1, 0), 108);
    }

    private static void removingOthersStay() {
        ServerHouse h = Check.withNumbers(1);
        Check.asked(h, 4, Check.OPEN, 1, 0, 1);
        Check.asked(h, 4, Check.CLOSE, 1, 0, 0);
        Check.asked(h, 4, Check.REMOVE, 1, 0, 0);
        Check.due("an empty file had no block", h.count(11), 23);
        Check.asked(h, 4, Check.OPEN, 2, 0, 1);
        for (int i = 0; i < 8; i++) {
            Check.asked(h, 4, Check.WRITE, 1, i, 0);
        }
        Check.asked(h, 4, Check.CLOSE, 1, 0, 0);
        Check.asked(h, 4, Check.REMOVE, 2, 0, 0);
        Check.due("eight numbers had one", h.count(11), 23);
        Check.due("the other's block", h.file(0, 1), 0);
    }

    private static void fillTheDisk() {
        ServerHouse h = new ServerHouse();
        for (int a = 0; a < 6; a++) {
            Check.asked(h, 4, Check.OPEN, a, 0, 0);
            for (int i = 0; i < 32; i++) {
                h.call(4, Check.WRITE, 0, a * 32 + i);
                h.until(4, 20000);
            }
            Check.due("size of " + a, h.file(a, 0), 32);
            Check.asked(h, 4, Check.CLOSE, 0, 0, 0);
        }
        Check.due("no block is free", h.count(11), 0);
        Check.due("the last block", h.file(5, 4), 23);
        Check.due("the last number", h.disk(23, 7), 191);
        Check.due("the arm", h.count(4), 23);
        Check.asked(h, 4, Check.OPEN, 6, 0, 0);
        Check.asked(h, 4, Check.WRITE, 0, 1, -6);
        Check.due("nothing was written", h.file(6, 0), 0);
        Check.asked(h, 4, Check.OPEN, 5, 0, 1);
        Check.asked(h, 4, Check.WRITE, 1, -1, 0);
        Check.due("no block is needed there", h.disk(20, 0), -1);
        Check.due("the arm went back", h.count(4), 20);
        Check.asked(h, 4, Check.SEEK, 1, 32, 0);
        Check.asked(h, 4, Check.WRITE, 1, 1, -4);
        Check.asked(h, 4, Check.REMOVE, 2, 0, 0);
        Check.asked(h, 4, Check.WRITE, 0, 1, 0);
        Check.due("the least one", h.file(6, 1), 8);
    }
}
