import java.util.NoSuchElementException;

/**
 * A house of parts that share nothing and send one another messages: a keeper, a driver of a disk,
 * a server of files, a server of processes, and users. The core passes on what its table allows.
 */
public final class ServerHouse {
    public static final int NONE = -1;

    private static final int PARTS = 12;
    private static final int KEEPER = 0;
    private static final int DRIVER = 1;
    private static final int FILES = 2;
    private static final int PROCESSES = 3;
    private static final int FIRST_USER = 4;
    private static final int USERS = PARTS - FIRST_USER;

    private static final int BOX_SIZE = 12;
    private static final int MOST_STEPS = 20000;
    private static final int BLOCKS = 24;
    private static final int BLOCK_SIZE = 8;
    private static final int FILE_NAMES = 16;
    private static final int MOST_FILES = 8;
    private static final int FILE_BLOCKS = 4;
    private static final int MOST_SIZE = FILE_BLOCKS * BLOCK_SIZE;
    private static final int DESCRIPTORS = 4;
    private static final int CODES = 256;
    private static final int KILLED = 255;
    private static final int CHECK_EVERY = 10;
    private static final int START_AFTER = 3;

    // The kinds of messages.
    private static final int FORCED = 0;
    private static final int OPEN = 1;
    private static final int CLOSE = 2;
    private static final int READ = 3;
    private static final int WRITE = 4;
    private static final int SEEK = 5;
    private static final int REMOVE = 6;
    private static final int SIZE = 7;
    private static final int FORK = 8;
    private static final int EXIT = 9;
    private static final int WAIT = 10;
    private static final int KILL = 11;
    private static final int PARENT = 12;
    private static final int FETCH = 20;
    private static final int STORE = 21;
    private static final int DISK_DONE = 22;
    private static final int COPY_OPEN = 30;
    private static final int CLOSE_OPEN = 31;
    private static final int OPEN_DONE = 32;
    private static final int ASK_WELL = 40;
    private static final int AM_WELL = 41;
    private static final int NEW_LIFE = 42;
    private static final int ANSWER = 50;

    // What the core tells of a message.
    private static final int PASSED = 0;
    private static final int FORBIDDEN = 1;
    private static final int DEAD = 2;
    private static final int FULL = 3;

    private static final int ANY_LIFE = 0;

    // Bit t of row f: part f may send to part t.
    private static final int[] ALLOWED = {
        0x006, 0x005, 0xFFA, 0xFF4, 0x00C, 0x00C, 0x00C, 0x00C, 0x00C, 0x00C, 0x00C, 0x00C
    };

    // The senders that a waiting server still listens to, as bits.
    private static final int KEEPER_AND_DRIVER = 0x003;
    private static final int FILES_ONLY = 0x004;

    // What the servers answer when they refuse.
    private static final int WRONG_NUMBER = -1;
    private static final int TOO_MANY_OPEN = -2;
    private static final int TOO_MANY_FILES = -3;
    private static final int AT_LIMIT = -4;
    private static final int AT_END = -5;
    private static final int NO_BLOCK = -6;
    private static final int STILL_OPEN = -7;
    private static final int NOT_OPEN = -8;
    private static final int NO_USER_FREE = -9;
    private static final int NO_CHILDREN = -10;
    private static final int NOT_A_CHILD = -11;

    private final Core core;
    private final Keeper keeper;
    private final Driver driver;
    private final FileServer files;
    private final ProcessServer processes;
    private final Users users;
    private int stepsDone;
    // Kept beside the steps: those may wrap around one day, an index must not.
    private int next;
    private int crashes;

    public ServerHouse() {
        core = new Core();
        keeper = new Keeper();
        driver = new Driver();
        files = new FileServer();
        processes = new ProcessServer();
        users = new Users();
        stepsDone = 0;
        next = 0;
        crashes = 0;
    }

    public int call(int user, int kind, int a, int b) {
        if (!isUser(user) || !core.lives[user]) {
            return 1;
        }
        if (users.hasCall(user)) {
            return 2;
        }
        if (kind < OPEN || kind > PARENT) {
            return 3;
        }
        if (core.postLoose(user, kind < FORK ? FILES : PROCESSES, kind, a, b) != PASSED) {
            return 4;
        }
        users.setCall(user, true);
        return 0;
    }

    public int steps(int n) {
        if (n < 0 || n > MOST_STEPS) {
            return NONE;
        }
        for (int i = 0; i < n; i++) {
            giveTurn();
        }
        return stepsDone;
    }

    public int until(int user, int n) {
        if (!isUser(user) || n < 0 || n > MOST_STEPS) {
            return NONE;
        }
        int done = 0;
        while (done < n && users.hasCall(user)) {
            giveTurn();
            done++;
        }
        return done;
    }

    public boolean crash() {
        if (!core.lives[DRIVER]) {
            return false;
        }
        breakDriver();
        return true;
    }

    public boolean hang() {
        if (!core.lives[DRIVER] || driver.hanging) {
            return false;
        }
        driver.hanging = true;
        return true;
    }

    public int force(int from, int to) {
        if (!isPart(from) || !isPart(to) || !core.lives[from]) {
            return NONE;
        }
        return core.postLoose(from, to, FORCED, 0, 0);
    }

    public int user(int u, int what) throws NoSuchElementException {
        if (!isUser(u)) {
            throw new NoSuchElementException("no such user");
        }
        switch (what) {
            case 0:
                return core.lives[u] ? 1 : processes.hasEnded(u) ? 2 : 0;
            case 1:
                return users.hasCall(u) ? 1 : 0;
            case 2:
                return users.latest[u];
            case 3:
                return users.answers[u];
            case 4:
                return processes.parentOf(u);
            case 5:
                return processes.codeOf(u);
            case 6:
                return files.open.howMany(u);
            default:
                throw new NoSuchElementException("nothing such of a user");
        }
    }

    public int descriptor(int u, int d, int what) {
        switch (what) {
            case 0:
                return files.open.fileAt(u, d);
            case 1:
                return files.open.placeAt(u, d);
            default:
                return NONE;
        }
    }

    public int file(int a, int what) {
        return what == 0 ? files.table.sizeOf(a) : files.table.blockOf(a, what - 1L);
    }

    public int disk(int block, int k) throws NoSuchElementException {
        if (block < 0 || block >= BLOCKS || k < 0 || k >= BLOCK_SIZE) {
            throw new NoSuchElementException("no such place on the disk");
        }
        return driver.disk[block * BLOCK_SIZE + k];
    }

    public int inbox(int part) {
        return isPart(part) ? core.boxes[part].size : NONE;
    }

    public int message(int part, int k, int what) {
        Message m = isPart(part) ? core.boxes[part].look(k) : null;
        if (m == null) {
            return NONE;
        }
        switch (what) {
            case 0:
                return m.sender;
            case 1:
                return m.kind;
            case 2:
                return m.a;
            case 3:
                return m.b;
            case 4:
                return m.c;
            default:
                return NONE;
        }
    }

    public int count(int what) {
        switch (what) {
            case 0:
                return stepsDone;
            case 1:
                return next;
            case 2:
                return core.driverLife;
            case 3:
                return !core.lives[DRIVER] ? 0 : driver.hanging ? 2 : 1;
            case 4:
                return driver.arm;
            case 5:
                return driver.job == NONE ? 0 : 1;
            case 6:
                return files.waiting ? 1 : 0;
            case 7:
                return processes.waiting ? 1 : 0;
            case 8:
                return crashes;
            case 9:
                return core.forbidden;
            case 10:
                return files.table.files;
            case 11:
                return files.table.freeBlocks;
            case 12:
                return core.livingUsers();
            case 13:
                return core.passed;
            default:
                return NONE;
        }
    }

    private void giveTurn() {
        int part = next;
        next = part + 1 < PARTS ? part + 1 : 0;
        stepsDone++;
        if (part == KEEPER) {
            // Turns that only send again count too: the document says "of all that it had".
            keeper.turns++;
        }
        // One that hangs does nothing: it does not even send again what found no room.
        if (!core.lives[part] || part == DRIVER && driver.hanging || core.sendHeld(part)) {
            return;
        }
        switch (part) {
            case KEEPER:
                if (keeper.takeTurn(core)) {
                    breakDriver();
                }
                break;
            case DRIVER:
                driver.takeTurn(core);
                break;
            case FILES:
                files.takeTurn(core);
                break;
            case PROCESSES:
                processes.takeTurn(core, users);
                break;
            default:
                users.takeTurn(core, part);
                break;
        }
    }

    private void breakDriver() {
        core.end(DRIVER);
        driver.loseAll();
        keeper.deadTurns = 0;
        crashes++;
    }

    private static boolean isPart(int part) {
        return part >= 0 && part < PARTS;
    }

    private static boolean isUser(int part) {
        return part >= FIRST_USER && part < PARTS;
    }

    /** A message, be it in an inbox or in the hands of its sender. */
    private static final class Message {
        final int[] numbers = new int[BLOCK_SIZE];
        int sender;
        int kind;
        int a;
        int b;
        int c;
        // Which life of its receiver it is for; only the file server's to the driver tell one.
        int life = ANY_LIFE;
        // Where it found no room, and so is to go again; NONE if it is not held back.
        int heldFor = NONE;

        void write(int from, int newKind, int first, int second) {
            sender = from;
            kind = newKind;
            a = first;
            b = second;
            c = 0;
            life = ANY_LIFE;
            heldFor = NONE;
        }

        void setNumbers(int[] source, int start) {
            for (int i = 0; i < BLOCK_SIZE; i++) {
                int at = start + i;
                numbers[i] = at >= 0 && at < source.length ? source[at] : 0;
            }
        }

        void copy(Message m) {
            sender = m.sender;
            kind = m.kind;
            a = m.a;
            b = m.b;
            c = m.c;
            if (kind == STORE || kind == DISK_DONE) {
                for (int i = 0; i < BLOCK_SIZE; i++) {
                    numbers[i] = m.numbers[i];
                }
            }
        }
    }

    /** An inbox. Its messages are made once and used again. */
    private static final class Box {
        private final Message[] row = new Message[BOX_SIZE];
        int size;

        Box() {
            for (int i = 0; i < BOX_SIZE; i++) {
                row[i] = new Message();
            }
            size = 0;
        }

        Message look(int i) {
            return i >= 0 && i < size ? row[i] : null;
        }

        /** The message that comes in last, to be written to; null if there is no room for one. */
        Message grow() {
            if (size >= BOX_SIZE) {
                return null;
            }
            size++;
            return row[size - 1];
        }

        /** Takes message i out; what it holds is good until the next message comes in. */
        Message take(int i) {
            if (i < 0 || i >= size) {
                return null;
            }
            Message taken = row[i];
            size--;
            for (int k = i; k < size; k++) {
                row[k] = row[k + 1];
            }
            row[size] = taken;
            return taken;
        }

        /** The first message from one of these senders, or forced; NONE without one. */
        int firstFor(int senders) {
            for (int i = 0; i < size; i++) {
                if (row[i].kind == FORCED || (senders >> row[i].sender & 1) == 1) {
                    return i;
                }
            }
            return NONE;
        }

        int firstOf(int kind) {
            for (int i = 0; i < size; i++) {
                if (row[i].kind == kind) {
                    return i;
                }
            }
            return NONE;
        }

        void dropFrom(int sender) {
            for (int i = size - 1; i >= 0; i--) {
                if (row[i].sender == sender) {
                    take(i);
                }
            }
        }
    }

    /** Knows who lives, holds the inboxes, and passes messages on. */
    private static final class Core {
        final Box[] boxes = new Box[PARTS];
        final boolean[] lives = new boolean[PARTS];
        // What each part sent last, and still holds if there was no room for it.
        private final Message[] drafts = new Message[PARTS];
        private final Message loose = new Message();
        int driverLife = 1;
        int forbidden;
        int passed;

        Core() {
            for (int i = 0; i < PARTS; i++) {
                boxes[i] = new Box();
                drafts[i] = new Message();
                lives[i] = i <= FIRST_USER;
            }
        }

        /** The message that a part is about to send; null if there is no such part. */
        Message draft(int from, int kind, int a, int b) {
            if (!isPart(from)) {
                return null;
            }
            drafts[from].write(from, kind, a, b);
            return drafts[from];
        }

        void send(int from, int to, int kind, int a, int b) {
            Message m = draft(from, kind, a, b);
            if (m != null) {
                post(m, to);
            }
        }

        /** Sends a user's call or a forced message: no turn sends these again if there is no room. */
        int postLoose(int from, int to, int kind, int a, int b) {
            loose.write(from, kind, a, b);
            return post(loose, to);
        }

        /** Whether the part held a message back, and so its turn was to send that again. */
        boolean sendHeld(int part) {
            if (!isPart(part) || drafts[part].heldFor == NONE) {
                return false;
            }
            Message m = drafts[part];
            int to = m.heldFor;
            m.heldFor = NONE;
            post(m, to);
            return true;
        }

        int post(Message m, int to) {
            if (!isPart(m.sender) || !isPart(to) || (ALLOWED[m.sender] >> to & 1) == 0) {
                forbidden++;
                return FORBIDDEN;
            }
            if (!lives[to] || m.life != ANY_LIFE && m.life != driverLife) {
                return DEAD;
            }
            Message last = boxes[to].grow();
            if (last == null) {
                m.heldFor = to;
                return FULL;
            }
            last.copy(m);
            passed++;
            return PASSED;
        }

        void end(int part) {
            if (isPart(part)) {
                lives[part] = false;
                boxes[part].size = 0;
                drafts[part].heldFor = NONE;
            }
        }

        void startDriver() {
            lives[DRIVER] = true;
            driverLife++;
        }

        int livingUsers() {
            int living = 0;
            for (int u = FIRST_USER; u < PARTS; u++) {
                living += lives[u] ? 1 : 0;
            }
            return living;
        }
    }

    /** Starts the driver anew when it is dead, and finds out when it hangs. */
    private static final class Keeper {
        int turns;
        int deadTurns;
        // 40 was sent in this life of the driver, and no 41 was taken since.
        private boolean unanswered;

        /** Whether the driver is found to hang, and must crash. */
        boolean takeTurn(Core core) {
            if (!core.lives[DRIVER]) {
                watchDead(core);
                return false;
            }
            Message m = core.boxes[KEEPER].take(0);
            if (m != null && m.kind == FORCED) {
                // Throwing it away was the turn, even where a check was due in it.
                return false;
            }
            if (m != null && m.kind == AM_WELL) {
                unanswered = false;
            }
            return turns % CHECK_EVERY == 0 && check(core);
        }

        private boolean check(Core core) {
            if (unanswered) {
                return true;
            }
            unanswered = true;
            core.send(KEEPER, DRIVER, ASK_WELL, 0, 0);
            return false;
        }

        private void watchDead(Core core) {
            deadTurns++;
            if (deadTurns >= START_AFTER) {
                unanswered = false;
                core.startDriver();
                core.send(KEEPER, FILES, NEW_LIFE, core.driverLife, 0);
            }
        }
    }

    /** Moves the arm over the disk, and reads and writes blocks there. */
    private static final class Driver {
        final int[] disk = new int[BLOCKS * BLOCK_SIZE];
        private final int[] numbers = new int[BLOCK_SIZE];
        boolean hanging;
        int arm;
        int job = NONE;
        private int block;

        void takeTurn(Core core) {
            Box box = core.boxes[DRIVER];
            if (box.take(box.firstOf(ASK_WELL)) != null) {
                core.send(DRIVER, KEEPER, AM_WELL, 0, 0);
            } else if (job != NONE) {
                work(core);
            } else {
                begin(box.take(0));
            }
        }

        private void begin(Message m) {
            if (m == null || m.kind != FETCH && m.kind != STORE || m.a < 0 || m.a >= BLOCKS) {
                return;
            }
            job = m.kind;
            block = m.a;
            if (job == STORE) {
                for (int i = 0; i < BLOCK_SIZE; i++) {
                    numbers[i] = m.numbers[i];
                }
            }
        }

        private void work(Core core) {
            if (arm != block) {
                arm += arm < block ? 1 : -1;
                return;
            }
            int start = block * BLOCK_SIZE;
            if (job == STORE) {
                for (int i = 0; i < BLOCK_SIZE; i++) {
                    disk[start + i] = numbers[i];
                }
            }
            job = NONE;
            Message done = core.draft(DRIVER, DISK_DONE, 0, 0);
            if (done != null) {
                done.setNumbers(disk, start);
                core.post(done, FILES);
            }
        }

        void loseAll() {
            hanging = false;
            arm = 0;
            job = NONE;
        }
    }

    /** The files' sizes and blocks, and which blocks are free. */
    private static final class FileTable {
        private final boolean[] there = new boolean[FILE_NAMES];
        private final int[] sizes = new int[FILE_NAMES];
        private final int[] blocks = new int[FILE_NAMES * FILE_BLOCKS];
        private final boolean[] taken = new boolean[BLOCKS];
        int files;
        int freeBlocks = BLOCKS;

        boolean has(int f) {
            return f >= 0 && f < FILE_NAMES && there[f];
        }

        int sizeOf(int f) {
            return has(f) ? sizes[f] : NONE;
        }

        /** Block i of a file, if its size reaches that far; i is long so that none wraps around. */
        int blockOf(int f, long i) {
            if (!has(f) || i < 0 || i >= FILE_BLOCKS || i * BLOCK_SIZE >= sizes[f]) {
                return NONE;
            }
            return blocks[f * FILE_BLOCKS + (int) i];
        }

        void make(int f) {
            if (f >= 0 && f < FILE_NAMES && !there[f]) {
                there[f] = true;
                sizes[f] = 0;
                files++;
            }
        }

        void discard(int f) {
            if (!has(f)) {
                return;
            }
            for (int i = 0; i < FILE_BLOCKS && i * BLOCK_SIZE < sizes[f]; i++) {
                release(blocks[f * FILE_BLOCKS + i]);
            }
            there[f] = false;
            files--;
        }

        private void release(int block) {
            if (block >= 0 && block < BLOCKS && taken[block]) {
                taken[block] = false;
                freeBlocks++;
            }
        }

        boolean needsBlock(int f, int place) {
            return has(f) && place == sizes[f] && place % BLOCK_SIZE == 0;
        }

        /** The least free block, which is the file's from now on; NONE if none is free. */
        int takeBlock(int f, int place) {
            if (!has(f) || place < 0 || place >= MOST_SIZE) {
                return NONE;
            }
            for (int block = 0; block < BLOCKS; block++) {
                if (!taken[block]) {
                    taken[block] = true;
                    freeBlocks--;
                    blocks[f * FILE_BLOCKS + place / BLOCK_SIZE] = block;
                    return block;
                }
            }
            return NONE;
        }

        void growOver(int f, int place) {
            if (has(f) && place == sizes[f] && place < MOST_SIZE) {
                sizes[f] = place + 1;
            }
        }
    }

    /** Which files the users have open, and at which places. */
    private static final class OpenFiles {
        private final int[] files = new int[USERS * DESCRIPTORS];
        private final int[] places = new int[USERS * DESCRIPTORS];

        OpenFiles() {
            for (int i = 0; i < files.length; i++) {
                files[i] = NONE;
            }
        }

        /** Where an open descriptor stands in the rows; NONE if it is not open. */
        private int slot(int u, int d) {
            if (!isUser(u) || d < 0 || d >= DESCRIPTORS) {
                return NONE;
            }
            int at = (u - FIRST_USER) * DESCRIPTORS + d;
            return files[at] == NONE ? NONE : at;
        }

        int fileAt(int u, int d) {
            int at = slot(u, d);
            return at == NONE ? NONE : files[at];
        }

        int placeAt(int u, int d) {
            int at = slot(u, d);
            return at == NONE ? NONE : places[at];
        }

        void setPlace(int u, int d, int place) {
            int at = slot(u, d);
            if (at != NONE) {
                places[at] = place;
            }
        }

        int leastFree(int u) {
            for (int d = 0; d < DESCRIPTORS; d++) {
                if (slot(u, d) == NONE) {
                    return d;
                }
            }
            return NONE;
        }

        int howMany(int u) {
            int open = 0;
            for (int d = 0; d < DESCRIPTORS; d++) {
                open += slot(u, d) == NONE ? 0 : 1;
            }
            return open;
        }

        boolean anybodyHas(int f) {
            for (int i = 0; i < files.length; i++) {
                if (files[i] == f) {
                    return true;
                }
            }
            return false;
        }

        /** Opens descriptor d for file f, or closes it if f is NONE. */
        void set(int u, int d, int f, int place) {
            if (isUser(u) && d >= 0 && d < DESCRIPTORS) {
                int at = (u - FIRST_USER) * DESCRIPTORS + d;
                files[at] = f;
                places[at] = place;
            }
        }

        void closeAll(int u) {
            for (int d = 0; d < DESCRIPTORS; d++) {
                set(u, d, NONE, 0);
            }
        }

        void copyAll(int from, int to) {
            for (int d = 0; d < DESCRIPTORS; d++) {
                set(to, d, fileAt(from, d), placeAt(from, d));
            }
        }
    }

    /** Serves calls 1 to 7, one at a time; reads and writes wait for the driver. */
    private static final class FileServer {
        final FileTable table = new FileTable();
        final OpenFiles open = new OpenFiles();
        boolean waiting;
        private final int[] numbers = new int[BLOCK_SIZE];
        private int toldLife = 1;
        // The call in hand, while it waits.
        private boolean reading;
        private int caller;
        private int descriptor;
        private int value;
        // What it asked the driver for: the message may have to go out anew.
        private int request;
        private int block;

        void takeTurn(Core core) {
            Box box = core.boxes[FILES];
            Message m = box.take(waiting ? box.firstFor(KEEPER_AND_DRIVER) : 0);
            if (m == null) {
                return;
            }
            switch (m.kind) {
                case OPEN:
                    core.send(FILES, m.sender, ANSWER, openFile(m.sender, m.a), 0);
                    break;
                case REMOVE:
                    core.send(FILES, m.sender, ANSWER, removeFile(m.a), 0);
                    break;
                case READ:
                    read(core, m.sender, m.a);
                    break;
                case WRITE:
                    write(core, m.sender, m.a, m.b);
                    break;
                case DISK_DONE:
                    goOn(core, m.numbers);
                    break;
                case NEW_LIFE:
                    hearOfLife(core, m.a);
                    break;
                case COPY_OPEN:
                    open.copyAll(m.a, m.b);
                    core.send(FILES, PROCESSES, OPEN_DONE, 0, 0);
                    break;
                case CLOSE_OPEN:
                    open.closeAll(m.a);
                    core.send(FILES, PROCESSES, OPEN_DONE, 0, 0);
                    break;
                case CLOSE:
                case SEEK:
                case SIZE:
                    core.send(FILES, m.sender, ANSWER, handle(m.sender, m.kind, m.a, m.b), 0);
                    break;
                default:
                    break;
            }
        }

        /** The answer to a close, a seek or a size of a descriptor. */
        private int handle(int u, int kind, int d, int place) {
            int f = open.fileAt(u, d);
            if (f == NONE) {
                return NOT_OPEN;
            }
            if (kind == SIZE) {
                return table.sizeOf(f);
            }
            if (kind == CLOSE) {
                open.set(u, d, NONE, 0);
                return 0;
            }
            if (place < 0 || place > table.sizeOf(f)) {
                return WRONG_NUMBER;
            }
            open.setPlace(u, d, place);
            return 0;
        }

        private int openFile(int u, int f) {
            if (f < 0 || f >= FILE_NAMES) {
                return WRONG_NUMBER;
            }
            int d = open.leastFree(u);
            if (d == NONE) {
                return TOO_MANY_OPEN;
            }
            if (!table.has(f)) {
                if (table.files >= MOST_FILES) {
                    return TOO_MANY_FILES;
                }
                table.make(f);
            }
            open.set(u, d, f, 0);
            return d;
        }

        private int removeFile(int f) {
            if (!table.has(f)) {
                return WRONG_NUMBER;
            }
            if (open.anybodyHas(f)) {
                return STILL_OPEN;
            }
            table.discard(f);
            return 0;
        }

        private void read(Core core, int u, int d) {
            int f = open.fileAt(u, d);
            int place = open.placeAt(u, d);
            if (f == NONE || place >= table.sizeOf(f)) {
                core.send(FILES, u, ANSWER, f == NONE ? NOT_OPEN : AT_END, 0);
                return;
            }
            takeInHand(u, d, true, 0);
            block = table.blockOf(f, place / BLOCK_SIZE);
            ask(core, FETCH);
        }

        private void write(Core core, int u, int d, int v) {
            int f = open.fileAt(u, d);
            int place = open.placeAt(u, d);
            int refusal = whyNotWrite(f, place);
            if (refusal != 0) {
                core.send(FILES, u, ANSWER, refusal, 0);
                return;
            }
            takeInHand(u, d, false, v);
            if (!table.needsBlock(f, place)) {
                block = table.blockOf(f, place / BLOCK_SIZE);
                ask(core, FETCH);
                return;
            }
            block = table.takeBlock(f, place);
            for (int i = 0; i < BLOCK_SIZE; i++) {
                numbers[i] = i == 0 ? v : 0;
            }
            ask(core, STORE);
        }

        /** The answer to a write that is refused, else 0. */
        private int whyNotWrite(int f, int place) {
            if (f == NONE) {
                return NOT_OPEN;
            }
            if (place >= MOST_SIZE) {
                return AT_LIMIT;
            }
            return table.needsBlock(f, place) && table.freeBlocks == 0 ? NO_BLOCK : 0;
        }

        private void takeInHand(int u, int d, boolean isRead, int v) {
            caller = u;
            descriptor = d;
            reading = isRead;
            value = v;
        }

        private void ask(Core core, int kind) {
            request = kind;
            waiting = true;
            Message m = core.draft(FILES, kind, block, 0);
            if (m == null) {
                return;
            }
            m.life = toldLife;
            if (kind == STORE) {
                m.setNumbers(numbers, 0);
            }
            core.post(m, DRIVER);
        }

        private void hearOfLife(Core core, int life) {
            toldLife = life;
            if (waiting) {
                ask(core, request);
            }
        }

        private void goOn(Core core, int[] fetched) {
            if (!waiting) {
                return;
            }
            int place = open.placeAt(caller, descriptor);
            int within = Math.floorMod(place, BLOCK_SIZE);
            if (!reading && request == FETCH) {
                for (int i = 0; i < BLOCK_SIZE; i++) {
                    numbers[i] = i == within ? value : fetched[i];
                }
                ask(core, STORE);
                return;
            }
            waiting = false;
            if (!reading) {
                table.growOver(open.fileAt(caller, descriptor), place);
            }
            open.setPlace(caller, descriptor, place + 1);
            core.send(FILES, caller, ANSWER, reading ? fetched[within] : 0, 0);
        }
    }

    /** Serves calls 8 to 12; what changes descriptors waits for the file server. */
    private static final class ProcessServer {
        private final int[] parents = new int[PARTS];
        private final int[] codes = new int[PARTS];
        // Ended, and not free yet.
        private final boolean[] ended = new boolean[PARTS];
        private final boolean[] waits = new boolean[PARTS];
        boolean waiting;
        // What it waits for the file server with: a fork, or else an end.
        private boolean forking;
        private int subject;
        // Whom to answer then; NONE for an exit.
        private int caller;

        ProcessServer() {
            for (int i = 0; i < PARTS; i++) {
                parents[i] = NONE;
            }
        }

        boolean hasEnded(int u) {
            return isUser(u) && ended[u];
        }

        int parentOf(int u) {
            return isUser(u) ? parents[u] : NONE;
        }

        int codeOf(int u) {
            return isUser(u) ? codes[u] : 0;
        }

        void takeTurn(Core core, Users users) {
            Box box = core.boxes[PROCESSES];
            Message m = box.take(waiting ? box.firstFor(FILES_ONLY) : 0);
            if (m == null || !isPart(m.sender)) {
                return;
            }
            int u = m.sender;
            switch (m.kind) {
                case OPEN_DONE:
                    goOn(core);
                    break;
                case FORK:
                    fork(core, u);
                    break;
                case EXIT:
                    end(core, users, u, Math.floorMod(m.a, CODES), NONE);
                    break;
                case WAIT:
                    await(core, u);
                    break;
                case KILL:
                    if (isUser(m.a) && core.lives[m.a] && parents[m.a] == u) {
                        end(core, users, m.a, KILLED, u);
                    } else {
                        core.send(PROCESSES, u, ANSWER, NOT_A_CHILD, 0);
                    }
                    break;
                case PARENT:
                    core.send(PROCESSES, u, ANSWER, parents[u] == NONE ? 0 : parents[u], 0);
                    break;
                default:
                    break;
            }
        }

        private void fork(Core core, int u) {
            // User 4 never lives again, so the search begins behind it.
            for (int child = FIRST_USER + 1; child < PARTS; child++) {
                if (!core.lives[child] && !ended[child]) {
                    waitFor(true, child, u);
                    core.send(PROCESSES, FILES, COPY_OPEN, u, child);
                    return;
                }
            }
            core.send(PROCESSES, u, ANSWER, NO_USER_FREE, 0);
        }

        private void end(Core core, Users users, int u, int code, int killer) {
            if (!isUser(u)) {
                return;
            }
            ended[u] = true;
            codes[u] = code;
            waits[u] = false;
            users.setCall(u, false);
            core.end(u);
            core.boxes[FILES].dropFrom(u);
            core.boxes[PROCESSES].dropFrom(u);
            waitFor(false, u, killer);
            core.send(PROCESSES, FILES, CLOSE_OPEN, u, 0);
        }

        private void waitFor(boolean fork, int who, int answered) {
            waiting = true;
            forking = fork;
            subject = who;
            caller = answered;
        }

        private void await(Core core, int u) {
            boolean hasChild = false;
            for (int c = FIRST_USER; c < PARTS; c++) {
                if (parents[c] == u) {
                    hasChild = true;
                    if (ended[c]) {
                        core.send(PROCESSES, u, ANSWER, collect(c), 0);
                        return;
                    }
                }
            }
            if (hasChild) {
                waits[u] = true;
            } else {
                core.send(PROCESSES, u, ANSWER, NO_CHILDREN, 0);
            }
        }

        /** What a parent is told of a child that ended, which is free from now on. */
        private int collect(int child) {
            if (!isUser(child)) {
                return NO_CHILDREN;
            }
            ended[child] = false;
            parents[child] = NONE;
            return CODES * child + codes[child];
        }

        private void goOn(Core core) {
            if (!waiting || !isUser(subject)) {
                return;
            }
            waiting = false;
            if (forking) {
                core.lives[subject] = true;
                parents[subject] = caller;
                codes[subject] = 0;
                core.send(PROCESSES, caller, ANSWER, subject, 0);
                return;
            }
            leaveChildren(subject);
            int parent = parents[subject];
            if (parent == NONE) {
                ended[subject] = false;
            } else if (isUser(parent) && waits[parent]) {
                waits[parent] = false;
                core.send(PROCESSES, parent, ANSWER, collect(subject), 0);
            }
            // Who kills has a call, so it is not the parent that waits: one answer at most.
            if (caller != NONE) {
                core.send(PROCESSES, caller, ANSWER, 0, 0);
            }
        }

        private void leaveChildren(int parent) {
            for (int c = FIRST_USER; c < PARTS; c++) {
                if (parents[c] == parent) {
                    parents[c] = NONE;
                    ended[c] = false;
                }
            }
        }
    }

    /** What the users know of themselves: whether they have a call, and what they were answered. */
    private static final class Users {
        private final boolean[] calling = new boolean[PARTS];
        final int[] latest = new int[PARTS];
        final int[] answers = new int[PARTS];

        boolean hasCall(int u) {
            return isUser(u) && calling[u];
        }

        void setCall(int u, boolean has) {
            if (isUser(u)) {
                calling[u] = has;
            }
        }

        void takeTurn(Core core, int u) {
            Message m = isUser(u) ? core.boxes[u].take(0) : null;
            if (m != null && m.kind == ANSWER) {
                latest[u] = m.a;
                answers[u]++;
                calling[u] = false;
            }
        }
    }
}
