/** Terms 2 of the document, sentence by sentence: the calls to the file server, and what they refuse. */
public final class FileCallEdgesTest {
    public static void main(String[] args) {
        openOfAnotherNumber();
        openAtPlaceZero();
        openMakesAFile();
        openTakesTheLeast();
        openOfFour();
        openOfEightFiles();
        openRefusesInOrder();
        close();
        read();
        readAtTheEnd();
        write();
        writeAtThirtyTwo();
        writeWithoutABlock();
        seek();
        remove();
        removeOpenFile();
        size();
        noSuchDescriptor();
        Check.end();
    }

    private static void openOfAnotherNumber() {
        Check.sentence("1 OPEN a: a descriptor for file a (0 .. 15) .. -1 another a");
        ServerHouse h = new ServerHouse();
        int[] others = {-1, 16, 17, 256, -16, Integer.MIN_VALUE, Integer.MAX_VALUE};
        for (int a : others) {
            Check.asked(h, 4, Check.OPEN, a, 0, -1);
        }
        Check.due("files", h.count(10), 0);
        Check.due("descriptors", h.user(4, 6), 0);
        Check.asked(h, 4, Check.OPEN, 0, 0, 0);
        Check.asked(h, 4, Check.OPEN, 15, 0, 1);
        Check.due("file of 0", h.descriptor(4, 0, 0), 0);
        Check.due("file of 1", h.descriptor(4, 1, 0), 15);
    }

    private static void openAtPlaceZero() {
        Check.sentence("a descriptor for file a (0 .. 15), its place 0");
        ServerHouse h = Check.withNumbers(3);
        Check.due("the place behind three numbers", h.descriptor(4, 0, 1), 3);
        Check.asked(h, 4, Check.OPEN, 0, 0, 1);
        Check.due("another descriptor of that file", h.descriptor(4, 1, 1), 0);
        Check.due("the first one stays", h.descriptor(4, 0, 1), 3);
        Check.asked(h, 4, Check.CLOSE, 0, 0, 0);
        Check.asked(h, 4, Check.OPEN, 0, 0, 0);
        Check.due("the same one anew", h.descriptor(4, 0, 1), 0);
        Check.asked(h, 4, Check.READ, 0, 0, 100);
    }

    private static void openMakesAFile() {
        Check.sentence("a file that is not there is made, empty");
        ServerHouse h = Check.withNumbers(9);
        Check.asked(h, 4, Check.OPEN, 1, 0, 1);
        Check.due("its size", h.file(1, 0), 0);
        Check.due("no block", h.file(1, 1), -1);
        Check.due("none was taken for it", h.count(11), 22);
        Check.due("files", h.count(10), 2);
        Check.asked(h, 4, Check.OPEN, 0, 0, 2);
        Check.due("one that is there stays as it is", h.file(0, 0), 9);
        Check.due("files still", h.count(10), 2);
        Check.asked(h, 4, Check.CLOSE, 0, 0, 0);
        Check.asked(h, 4, Check.CLOSE, 2, 0, 0);
        Check.asked(h, 4, Check.REMOVE, 0, 0, 0);
        Check.asked(h, 4, Check.OPEN, 0, 0, 0);
        Check.due("one that was removed is empty", h.file(0, 0), 0);
        Check.asked(h, 4, Check.READ, 0, 0, -5);
    }

    private static void openTakesTheLeast() {
        Check.sentence("the least of 0 .. 3 that is free");
        ServerHouse h = new ServerHouse();
        for (int d = 0; d < 4; d++) {
            Check.asked(h, 4, Check.OPEN, 9, 0, d);
        }
        Check.asked(h, 4, Check.CLOSE, 3, 0, 0);
        Check.asked(h, 4, Check.CLOSE, 1, 0, 0);
        Check.asked(h, 4, Check.CLOSE, 0, 0, 0);
        Check.asked(h, 4, Check.OPEN, 8, 0, 0);
        Check.asked(h, 4, Check.OPEN, 8, 0, 1);
        Check.asked(h, 4, Check.OPEN, 8, 0, 3);
    }

    private static void openOfFour() {
        Check.sentence("-2 it has 4");
        ServerHouse h = new ServerHouse();
        Check.asked(h, 4, Check.FORK, 0, 0, 5);
        for (int d = 0; d < 4; d++) {
            Check.asked(h, 4, Check.OPEN, d, 0, d);
        }
        Check.due("it has", h.user(4, 6), 4);
        Check.asked(h, 4, Check.OPEN, 4, 0, -2);
        Check.due("no file was made", h.file(4, 0), -1);
        Check.asked(h, 4, Check.OPEN, 0, 0, -2);
        Check.due("it has still", h.user(4, 6), 4);
        Check.asked(h, 5, Check.OPEN, 0, 0, 0);
        Check.asked(h, 4, Check.CLOSE, 2, 0, 0);
        Check.asked(h, 4, Check.OPEN, 4, 0, 2);
    }

    /** A house with files 0, 1 .. 7, none of them open. */
    private static ServerHouse withEightFiles() {
        ServerHouse h = new ServerHouse();
        for (int a = 0; a < 8; a++) {
            Check.asked(h, 4, Check.OPEN, a, 0, 0);
            Check.asked(h, 4, Check.CLOSE, 0, 0, 0);
        }
        Check.due("files", h.count(10), 8);
        return h;
    }

    private static void openOfEightFiles() {
        Check.sentence("-3 there are 8 files");
        ServerHouse h = withEightFiles();
        Check.asked(h, 4, Check.OPEN, 8, 0, -3);
        Check.due("it is not there", h.file(8, 0), -1);
        Check.due("files", h.count(10), 8);
        Check.due("no descriptor", h.user(4, 6), 0);
        Check.asked(h, 4, Check.OPEN, 7, 0, 0);
        Check.asked(h, 4, Check.REMOVE, 3, 0, 0);
        Check.asked(h, 4, Check.OPEN, 8, 0, 1);
        Check.asked(h, 4, Check.OPEN, 3, 0, -3);
    }

    private static void openRefusesInOrder() {
        Check.sentence("-1 another a; -2 it has 4; -3 there are 8 files");
        ServerHouse h = withEightFiles();
        Check.asked(h, 4, Check.OPEN, 16, 0, -1);
        for (int d = 0; d < 4; d++) {
            Check.asked(h, 4, Check.OPEN, 0, 0, d);
        }
        Check.asked(h, 4, Check.OPEN, 16, 0, -1);
        Check.asked(h, 4, Check.OPEN, -1, 0, -1);
        Check.asked(h, 4, Check.OPEN, 15, 0, -2);
    }

    private static void close() {
        Check.sentence("2 CLOSE d: 0");
        ServerHouse h = new ServerHouse();
        Check.asked(h, 4, Check.OPEN, 0, 0, 0);
        Check.asked(h, 4, Check.OPEN, 0, 0, 1);
        Check.asked(h, 4, Check.FORK, 0, 0, 5);
        Check.asked(h, 4, Check.CLOSE, 0, 0, 0);
        Check.due("closed", h.descriptor(4, 0, 0), -1);
        Check.due("the other one stays", h.descriptor(4, 1, 0), 0);
        Check.due("and another user's", h.descriptor(5, 0, 0), 0);
        Check.due("the file is there", h.file(0, 0), 0);
        Check.asked(h, 4, Check.CLOSE, 0, 0, -8);
    }

    private static void read() {
        Check.sentence("3 READ d: the number at its place, which goes on by one");
        ServerHouse h = Check.withNumbers(9);
        int[] places = {0, 7, 8};
        for (int p : places) {
            Check.asked(h, 4, Check.SEEK, 0, p, 0);
            Check.asked(h, 4, Check.READ, 0, 0, 100 + p);
            Check.due("the place", h.descriptor(4, 0, 1), p + 1);
        }
        Check.due("the size stays", h.file(0, 0), 9);
        Check.due("the disk too", h.disk(1, 0), 108);
    }

    private static void readAtTheEnd() {
        Check.sentence("-5 it is at the end");
        ServerHouse h = new ServerHouse();
        Check.asked(h, 4, Check.OPEN, 0, 0, 0);
        Check.asked(h, 4, Check.READ, 0, 0, -5);
        Check.due("the place stays", h.descriptor(4, 0, 1), 0);
        Check.asked(h, 4, Check.WRITE, 0, 61, 0);
        Check.asked(h, 4, Check.READ, 0, 0, -5);
        Check.due("the place stays", h.descriptor(4, 0, 1), 1);
        Check.asked(h, 4, Check.OPEN, 0, 0, 1);
        Check.asked(h, 4, Check.READ, 1, 0, 61);
        Check.asked(h, 4, Check.READ, 1, 0, -5);
        Check.asked(h, 4, Check.WRITE, 0, 62, 0);
        Check.asked(h, 4, Check.READ, 1, 0, 62);
    }

    private static void write() {
        Check.sentence("4 WRITE d v: the number at its place is v, one more if it is at the end; it goes on: 0");
        ServerHouse h = Check.withNumbers(2);
        Check.asked(h, 4, Check.SEEK, 0, 1, 0);
        Check.asked(h, 4, Check.WRITE, 0, Integer.MIN_VALUE, 0);
        Check.due("not at the end: the size stays", h.file(0, 0), 2);
        Check.due("it goes on", h.descriptor(4, 0, 1), 2);
        Check.asked(h, 4, Check.WRITE, 0, Integer.MAX_VALUE, 0);
        Check.due("at the end: one more", h.file(0, 0), 3);
        Check.due("it goes on", h.descriptor(4, 0, 1), 3);
        Check.due("the first", h.disk(0, 0), 100);
        Check.due("the second", h.disk(0, 1), Integer.MIN_VALUE);
        Check.due("the third", h.disk(0, 2), Integer.MAX_VALUE);
        Check.asked(h, 4, Check.SEEK, 0, 1, 0);
        Check.asked(h, 4, Check.READ, 0, 0, Integer.MIN_VALUE);
        Check.asked(h, 4, Check.READ, 0, 0, Integer.MAX_VALUE);
    }

    private static void writeAtThirtyTwo() {
        Check.sentence("-4 it is at 32");
        ServerHouse h = new ServerHouse();
        Check.asked(h, 4, Check.OPEN, 0, 0, 0);
        for (int i = 0; i < 31; i++) {
            Check.write(h, 4, 0, i);
        }
        Check.due("the place", h.descriptor(4, 0, 1), 31);
        Check.asked(h, 4, Check.WRITE, 0, 31, 0);
        Check.due("the size", h.file(0, 0), 32);
        Check.asked(h, 4, Check.WRITE, 0, 32, -4);
        Check.due("the size stays", h.file(0, 0), 32);
        Check.due("the place stays", h.descriptor(4, 0, 1), 32);
        Check.due("no block was taken", h.count(11), 20);
        Check.asked(h, 4, Check.READ, 0, 0, -5);
        Check.asked(h, 4, Check.SEEK, 0, 31, 0);
        Check.asked(h, 4, Check.WRITE, 0, 77, 0);
        Check.due("the last number", h.disk(3, 7), 77);
    }

    /** Files 0 (four blocks), 1 .. 6 (three each) and 7 (two): all 24, which ends with file 7 open at number 9. */
    private static ServerHouse withFullDisk() {
        ServerHouse h = new ServerHouse();
        for (int a = 0; a < 8; a++) {
            Check.asked(h, 4, Check.OPEN, a, 0, 0);
            int numbers = a == 0 ? 32 : a == 7 ? 9 : 17;
            for (int i = 0; i < numbers; i++) {
                Check.write(h, 4, 0, 100 * a + i);
            }
            if (a < 7) {
                Check.asked(h, 4, Check.CLOSE, 0, 0, 0);
            }
        }
        return h;
    }

    private static void writeWithoutABlock() {
        Check.sentence("-6 a block is needed and none is free");
        ServerHouse h = withFullDisk();
        Check.due("no block is free", h.count(11), 0);
        Check.due("the last one of all", h.file(7, 2), 23);
        for (int i = 9; i < 16; i++) {
            Check.write(h, 4, 0, 700 + i);
        }
        Check.due("none was needed for these", h.file(7, 0), 16);
        Check.asked(h, 4, Check.WRITE, 0, 5, -6);
        Check.due("the size stays", h.file(7, 0), 16);
        Check.due("the place stays", h.descriptor(4, 0, 1), 16);
        Check.due("no block of it", h.file(7, 3), -1);
        Check.asked(h, 4, Check.SEEK, 0, 8, 0);
        Check.asked(h, 4, Check.WRITE, 0, 5, 0);
        Check.asked(h, 4, Check.SEEK, 0, 16, 0);
        Check.sentence("-4 it is at 32; -6 a block is needed and none is free");
        Check.asked(h, 4, Check.OPEN, 0, 0, 1);
        Check.asked(h, 4, Check.SEEK, 1, 32, 0);
        Check.asked(h, 4, Check.WRITE, 1, 5, -4);
        Check.sentence("Blocks of a file that is removed are free.");
        Check.asked(h, 4, Check.REMOVE, 3, 0, 0);
        Check.due("three are free", h.count(11), 3);
        Check.asked(h, 4, Check.WRITE, 0, 5, 0);
        Check.due("the least of them", h.file(7, 3), 10);
    }

    private static void seek() {
        Check.sentence("5 SEEK d p: its place is p: 0; -1 p is below 0, above the file's size");
        ServerHouse h = Check.withNumbers(9);
        int[] wrong = {-1, 10, 32, Integer.MIN_VALUE, Integer.MAX_VALUE};
        for (int p = 0; p <= 9; p++) {
            Check.asked(h, 4, Check.SEEK, 0, p, 0);
            Check.due("the place", h.descriptor(4, 0, 1), p);
        }
        Check.asked(h, 4, Check.SEEK, 0, 4, 0);
        for (int p : wrong) {
            Check.asked(h, 4, Check.SEEK, 0, p, -1);
            Check.due("the place stays", h.descriptor(4, 0, 1), 4);
        }
        Check.asked(h, 4, Check.OPEN, 1, 0, 1);
        Check.asked(h, 4, Check.SEEK, 1, 0, 0);
        Check.asked(h, 4, Check.SEEK, 1, 1, -1);
    }

    private static void remove() {
        Check.sentence("6 REMOVE a: 0; -1 there is none");
        ServerHouse h = new ServerHouse();
        int[] none = {-1, 0, 15, 16, Integer.MIN_VALUE, Integer.MAX_VALUE};
        for (int a : none) {
            Check.asked(h, 4, Check.REMOVE, a, 0, -1);
        }
        int[] there = {0, 15};
        for (int a : there) {
            Check.asked(h, 4, Check.OPEN, a, 0, 0);
            Check.asked(h, 4, Check.CLOSE, 0, 0, 0);
            Check.asked(h, 4, Check.REMOVE, a, 0, 0);
            Check.due("it is gone", h.file(a, 0), -1);
            Check.due("files", h.count(10), 0);
            Check.asked(h, 4, Check.REMOVE, a, 0, -1);
        }
    }

    private static void removeOpenFile() {
        Check.sentence("-7 somebody has it open");
        ServerHouse h = new ServerHouse();
        Check.asked(h, 4, Check.OPEN, 2, 0, 0);
        Check.asked(h, 4, Check.OPEN, 2, 0, 1);
        Check.asked(h, 4, Check.FORK, 0, 0, 5);
        Check.asked(h, 4, Check.REMOVE, 2, 0, -7);
        Check.asked(h, 4, Check.CLOSE, 0, 0, 0);
        Check.asked(h, 4, Check.REMOVE, 2, 0, -7);
        Check.asked(h, 4, Check.CLOSE, 1, 0, 0);
        Check.asked(h, 4, Check.REMOVE, 2, 0, -7);
        Check.asked(h, 5, Check.CLOSE, 0, 0, 0);
        Check.asked(h, 4, Check.REMOVE, 2, 0, -7);
        Check.due("it is there", h.file(2, 0), 0);
        Check.asked(h, 4, Check.KILL, 5, 0, 0);
        Check.asked(h, 4, Check.REMOVE, 2, 0, 0);
    }

    private static void size() {
        Check.sentence("7 SIZE d: the size");
        ServerHouse h = new ServerHouse();
        Check.asked(h, 4, Check.OPEN, 0, 0, 0);
        Check.asked(h, 4, Check.SIZE, 0, 0, 0);
        for (int i = 0; i < 32; i++) {
            Check.write(h, 4, 0, i);
        }
        Check.asked(h, 4, Check.SEEK, 0, 5, 0);
        Check.asked(h, 4, Check.SIZE, 0, 0, 32);
        Check.due("the place stays", h.descriptor(4, 0, 1), 5);
    }

    private static void noSuchDescriptor() {
        Check.sentence("Of 2, 3, 4, 5, 7: -8 no such descriptor, ahead of the rest.");
        int[] kinds = {Check.CLOSE, Check.READ, Check.WRITE, Check.SEEK, Check.SIZE};
        int[] none = {-1, 1, 3, 4, Integer.MIN_VALUE, Integer.MAX_VALUE};
        for (int kind : kinds) {
            ServerHouse h = new ServerHouse();
            Check.asked(h, 4, Check.FORK, 0, 0, 5);
            Check.asked(h, 4, Check.OPEN, 0, 0, 0);
            for (int d : none) {
                Check.asked(h, 4, kind, d, -1, -8);
            }
            Check.asked(h, 5, kind, 0, 0, -8);
            Check.due("no block was taken", h.count(11), 24);
            Check.due("the one there is stays", h.descriptor(4, 0, 0), 0);
        }
    }
}
