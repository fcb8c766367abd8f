import java.util.Arrays;

/**
 * A monitor that shares a small machine of 12-bit words among up to eight users at lines, with an
 * assembler for their texts. The words in capitals are those of the document.
 */
public final class LineMonitor {
    private static final int WORDS = 4096;
    private static final int MASK = 07777;
    private static final int BLOCKS = 32;
    private static final int BLOCK_WORDS = 128;
    private static final int MOST_USERS = 8;
    private static final int MOST_FIELDS = 7;
    private static final int MOST_LETTERS = 16;
    private static final int PAPER_LETTERS = 512;
    private static final int ABOUT_USER = 12;
    private static final int ABOUT_HOUSE = 11;

    private static final int STOPPED = 0;
    private static final int READY = 1;
    private static final int RUNS = 2;
    private static final int WAITS_FOR_KEY = 3;
    private static final int WAITS_FOR_ROOM = 4;
    private static final int SLEEPS = 5;

    private static final int NO_FAULT = 0;
    private static final int BAD_STATEMENT = 1;
    private static final int NO_VALUE = 2;
    private static final int TOLD_TWICE = 3;
    private static final int OFF_PAGE = 4;
    private static final int NO_PLACE = 5;
    private static final int TOO_MANY_NAMES = 6;

    private final Tape tape;
    private final Assembler assembler;
    private final House home;

    public LineMonitor() {
        tape = new Tape();
        assembler = new Assembler(tape);
        home = new House();
    }

    public int open(int users, int fields, int quantum, int beat) {
        if (home.isOpen() || !within(users, 1, MOST_USERS) || !within(fields, 1, MOST_FIELDS)
                || !within(quantum, 1, 64) || !within(beat, 4, 1000)) {
            return -1;
        }
        home.begin(users, fields, quantum, beat);
        return 1;
    }

    public int feed(int a, int b, int c, int d, int e) {
        if (!tape.hasRoomFor(20)) {
            return -1;
        }
        tape.append(a);
        tape.append(b);
        tape.append(c);
        tape.append(d);
        tape.append(e);
        return tape.length;
    }

    public int end(int n) {
        return tape.cut(n) ? n : -1;
    }

    public int assemble(int u) {
        User user = home.userAt(u);
        if (user == null) {
            return -1;
        }
        assembler.begin();
        assembler.goOver(true);
        assembler.goOver(false);
        tape.cut(0);
        return assembler.deliver(user.words);
    }

    public int fault(int what) {
        if (what == 0) {
            return assembler.fault;
        }
        return what == 1 ? assembler.faultLine : -1;
    }

    public int poke(int u, int a, int v) {
        User user = home.userAt(u);
        if (user == null || !isWord(a) || !isWord(v)) {
            return -1;
        }
        user.words[a] = v;
        return 1;
    }

    public int peek(int u, int a) {
        User user = home.userAt(u);
        return user == null || !isWord(a) ? -1 : user.words[a];
    }

    public int store(int u, int b, int i, int v) {
        User user = home.userAt(u);
        if (user == null || !isInFile(b, i) || !isWord(v)) {
            return -1;
        }
        user.file[b * BLOCK_WORDS + i] = v;
        return 1;
    }

    public int block(int u, int b, int i) {
        User user = home.userAt(u);
        return user == null || !isInFile(b, i) ? -1 : user.file[b * BLOCK_WORDS + i];
    }

    public int switches(int u, int v) {
        User user = home.userAt(u);
        if (user == null || !isWord(v)) {
            return -1;
        }
        user.switchWord = v;
        return 1;
    }

    public int start(int u, int a) {
        User user = home.userAt(u);
        if (user == null || !isWord(a)) {
            return -1;
        }
        if (user.state != STOPPED) {
            return 0;
        }
        user.pc = a;
        home.makeReady(user);
        home.choose();
        return 1;
    }

    public int key(int u, int c) {
        User user = home.userAt(u);
        if (user == null || !within(c, 0, 255)) {
            return -1;
        }
        if (!user.input.add(c)) {
            user.lost = user.lost + 1 & MASK;
            return 0;
        }
        if (user.state == WAITS_FOR_KEY) {
            home.makeReady(user);
            home.choose();
        }
        return 1;
    }

    public int run(int n) {
        if (!home.isOpen() || !within(n, 0, 1000)) {
            return -1;
        }
        int busy = 0;
        for (int i = 0; i < n; i++) {
            if (home.step()) {
                busy++;
            }
        }
        return busy;
    }

    public int about(int u, int what) {
        User user = home.userAt(u);
        return user == null ? -1 : user.tell(what);
    }

    public int letter(int u, int i) {
        User user = home.userAt(u);
        return user == null ? -1 : user.onPaper(i);
    }

    public int waiting(int u, int i) {
        User user = home.userAt(u);
        return user == null ? -1 : user.input.at(i);
    }

    public int queued(int u, int i) {
        User user = home.userAt(u);
        return user == null ? -1 : user.output.at(i);
    }

    public int house(int what) {
        return home.tell(what);
    }

    public int row(int i) {
        return home.inRow(i);
    }

    public long digest() {
        long d = 7;
        for (int what = 0; what < ABOUT_HOUSE; what++) {
            d = d * 31 + house(what);
        }
        for (int u = 0; u < MOST_USERS; u++) {
            User user = home.userAt(u);
            if (user != null) {
                d = digestOf(user, d);
            }
        }
        return d;
    }

    private static long digestOf(User user, long before) {
        long d = before;
        for (int what = 0; what < ABOUT_USER; what++) {
            d = d * 31 + user.tell(what);
        }
        for (int word : user.words) {
            d = d * 31 + word;
        }
        for (int word : user.file) {
            d = d * 31 + word;
        }
        return d;
    }

    private static boolean within(int n, int lowest, int highest) {
        return n >= lowest && n <= highest;
    }

    private static boolean isWord(int n) {
        return n >= 0 && n < WORDS;
    }

    private static boolean isInFile(int b, int i) {
        return within(b, 0, BLOCKS - 1) && within(i, 0, BLOCK_WORDS - 1);
    }

    /** INPUT or OUTPUT: a row of letters that keeps its places from call to call. */
    private static final class Letters {
        /** Also the mask that keeps a place in the ring. */
        static final int LAST_PLACE = MOST_LETTERS - 1;

        final int[] ring = new int[MOST_LETTERS];
        int first;
        int size;

        /** False, and nothing is done, if the row is full. */
        boolean add(int c) {
            if (size >= MOST_LETTERS) {
                return false;
            }
            ring[first + size & LAST_PLACE] = c;
            size++;
            return true;
        }

        /** The first letter, which goes; -1 if there is none. */
        int take() {
            if (size <= 0) {
                return -1;
            }
            int c = ring[first & LAST_PLACE];
            first = first + 1 & LAST_PLACE;
            size--;
            return c;
        }

        int at(int i) {
            return i < 0 || i >= size ? -1 : ring[first + i & LAST_PLACE];
        }
    }

    /** A USER: its machine, its line and its FILE. */
    private static final class User {
        final int number;
        final int[] words = new int[WORDS];
        final int[] file = new int[BLOCKS * BLOCK_WORDS];
        final int[] paper = new int[PAPER_LETTERS];
        final Letters input = new Letters();
        final Letters output = new Letters();
        int pc;
        int ac;
        int link;
        int switchWord;
        int state;
        int toSleep;
        int toRun;
        int lost;
        int field;
        int printed;
        int steps;

        User(int number) {
            this.number = number;
        }

        void doInstruction() {
            int own = pc & MASK;
            int w = words[own];
            steps++;
            skip();
            if (w < 06000) {
                refer(w, own);
            } else if (w < 07000) {
                useDevice(w, own);
            } else if ((w & 0400) == 0) {
                operate(w);
            } else if ((w & 01) == 0) {
                test(w);
            }
        }

        private void skip() {
            pc = pc + 1 & MASK;
        }

        private void add(int n) {
            int sum = ac + n;
            if (sum >= WORDS) {
                link ^= 1;
            }
            ac = sum & MASK;
        }

        private void refer(int w, int own) {
            int a = addressIn(w, own);
            switch (w >> 9) {
                case 0:
                    ac &= words[a];
                    break;
                case 1:
                    add(words[a]);
                    break;
                case 2:
                    words[a] = words[a] + 1 & MASK;
                    if (words[a] == 0) {
                        skip();
                    }
                    break;
                case 3:
                    words[a] = ac;
                    ac = 0;
                    break;
                case 4:
                    words[a] = pc;
                    pc = a + 1 & MASK;
                    break;
                default:
                    pc = a;
                    break;
            }
        }

        private int addressIn(int w, int own) {
            int a = w & 0177;
            if ((w & 0200) != 0) {
                a |= own & 07600;
            }
            if ((w & 0400) == 0) {
                return a;
            }
            if (a >= 010 && a <= 017) {
                words[a] = words[a] + 1 & MASK;
            }
            return words[a] & MASK;
        }

        private void operate(int w) {
            if ((w & 0200) != 0) {
                ac = 0;
            }
            if ((w & 0100) != 0) {
                link = 0;
            }
            if ((w & 040) != 0) {
                ac ^= MASK;
            }
            if ((w & 020) != 0) {
                link ^= 1;
            }
            if ((w & 01) != 0) {
                add(1);
            }
            boolean right = (w & 010) != 0;
            boolean left = (w & 04) != 0;
            if (right != left) {
                turn(right ? 1 : 12, (w & 02) != 0 ? 2 : 1);
            }
        }

        /** L and AC go round to the right by places, times over; 12 places are one to the left. */
        private void turn(int places, int times) {
            int both = link << 12 | ac;
            for (int i = 0; i < times; i++) {
                both = (both >> places | both << 13 - places) & 017777;
            }
            link = both >> 12;
            ac = both & MASK;
        }

        private void test(int w) {
            boolean so = (w & 0100) != 0 && ac >= 2048
                    || (w & 040) != 0 && ac == 0
                    || (w & 020) != 0 && link == 1;
            boolean whenNone = (w & 010) != 0;
            if (so != whenNone) {
                skip();
            }
            if ((w & 0200) != 0) {
                ac = 0;
            }
            if ((w & 04) != 0) {
                ac |= switchWord;
            }
            if ((w & 02) != 0) {
                state = STOPPED;
            }
        }

        private void useDevice(int w, int own) {
            switch (w) {
                case 06031:
                    if (input.size > 0) {
                        skip();
                    }
                    break;
                case 06036:
                    readKey(own);
                    break;
                case 06041:
                    if (output.size < MOST_LETTERS) {
                        skip();
                    }
                    break;
                case 06046:
                    if (!output.add(ac & 0377)) {
                        waitAt(own, WAITS_FOR_ROOM);
                    }
                    break;
                case 06051:
                    fallAsleep();
                    break;
                case 06052:
                case 06053:
                    moveBlock(w == 06052);
                    break;
                case 06054:
                    ac = number;
                    break;
                default:
                    break;
            }
        }

        private void readKey(int own) {
            int c = input.take();
            if (c < 0) {
                waitAt(own, WAITS_FOR_KEY);
            } else {
                ac = c;
            }
        }

        private void waitAt(int own, int forWhat) {
            pc = own;
            state = forWhat;
        }

        private void fallAsleep() {
            if (ac != 0) {
                state = SLEEPS;
                toSleep = ac;
                ac = 0;
            }
        }

        private void moveBlock(boolean intoMemory) {
            int a = words[pc & MASK];
            skip();
            if (!within(ac, 0, BLOCKS - 1)) {
                ac = MASK;
                return;
            }
            int b = ac * BLOCK_WORDS;
            for (int i = 0; i < BLOCK_WORDS; i++) {
                int place = a + i & MASK;
                if (intoMemory) {
                    words[place] = file[b + i];
                } else {
                    file[b + i] = words[place];
                }
            }
            ac = 0;
        }

        /** The first letter of OUTPUT goes to PAPER; false if there is none. */
        boolean print() {
            int c = output.take();
            if (c < 0) {
                return false;
            }
            // A mask, for the remainder of a count that went round would be below 0.
            paper[printed & PAPER_LETTERS - 1] = c;
            printed++;
            return true;
        }

        int onPaper(int i) {
            boolean there = i >= 0 && i < printed && i >= printed - PAPER_LETTERS;
            return there ? paper[i & PAPER_LETTERS - 1] : -1;
        }

        int tell(int what) {
            switch (what) {
                case 0: return pc;
                case 1: return ac;
                case 2: return link;
                case 3: return state;
                case 4: return toSleep;
                case 5: return input.size;
                case 6: return output.size;
                case 7: return lost;
                case 8: return field;
                case 9: return printed;
                case 10: return toRun;
                case 11: return steps;
                default: return -1;
            }
        }
    }

    /** THE HOUSE: who RUNS, who is in the ROW, and whose memory is in which FIELD. */
    private static final class House {
        /** As many as there can be, so that open() need not make any. */
        final User[] users = new User[MOST_USERS];
        /** 0 ahead of open(). */
        int userCount;
        int fields;
        int quantum;
        int beat;
        final User[] row = new User[MOST_USERS];
        int rowSize;
        /** Place 0 stays empty, for FIELDS are counted from 1. */
        final User[] inField = new User[MOST_FIELDS + 1];
        int turn = 1;
        /** Null if none RUNS. */
        User runner;
        int steps;
        int stepsSinceTick;
        int ticks;
        int swaps;
        int idle;

        House() {
            for (int u = 0; u < users.length; u++) {
                users[u] = new User(u);
            }
        }

        boolean isOpen() {
            return userCount > 0;
        }

        void begin(int itsUsers, int itsFields, int itsQuantum, int itsBeat) {
            userCount = itsUsers;
            fields = itsFields;
            quantum = itsQuantum;
            beat = itsBeat;
        }

        /** Null if u is not a USER's number; ahead of open() none is. */
        User userAt(int u) {
            return u < 0 || u >= userCount || u >= users.length ? null : users[u];
        }

        void makeReady(User user) {
            if (rowSize < row.length) {
                user.state = READY;
                row[rowSize] = user;
                rowSize++;
            }
        }

        /** What comes behind each STEP and each call: if none RUNS, the first of the ROW does. */
        void choose() {
            User next = row[0];
            if (runner != null || rowSize <= 0 || next == null) {
                return;
            }
            rowSize--;
            for (int i = 1; i < row.length; i++) {
                row[i - 1] = row[i];
            }
            next.state = RUNS;
            next.toRun = quantum;
            runner = next;
            if (next.field == 0) {
                swapIn(next);
            }
        }

        private void swapIn(User user) {
            if (turn >= inField.length) {
                return;
            }
            User there = inField[turn];
            if (there != null) {
                there.field = 0;
            }
            inField[turn] = user;
            user.field = turn;
            swaps = swaps + 1 & MASK;
            turn = turn >= fields ? 1 : turn + 1;
        }

        /** A STEP with its TICK, and the choice behind it; false if it is IDLE. */
        boolean step() {
            boolean busy = runner != null;
            if (busy) {
                doRunnersInstruction(runner);
            } else {
                idle++;
            }
            steps++;
            stepsSinceTick++;
            if (stepsSinceTick >= beat) {
                stepsSinceTick = 0;
                tick();
            }
            choose();
            return busy;
        }

        private void doRunnersInstruction(User user) {
            user.doInstruction();
            if (user.state != RUNS) {
                user.toRun = 0;
                runner = null;
            }
        }

        private void tick() {
            ticks++;
            for (int u = 0; u < userCount; u++) {
                User user = userAt(u);
                if (user != null) {
                    tickOf(user);
                }
            }
            if (runner != null) {
                tickOfRunner(runner);
            }
        }

        private void tickOf(User user) {
            if (user.print() && user.state == WAITS_FOR_ROOM) {
                makeReady(user);
            }
            if (user.state == SLEEPS) {
                user.toSleep--;
                if (user.toSleep == 0) {
                    makeReady(user);
                }
            }
        }

        private void tickOfRunner(User user) {
            user.toRun--;
            if (user.toRun == 0) {
                runner = null;
                makeReady(user);
            }
        }

        int inRow(int i) {
            if (i < 0 || i >= rowSize || i >= row.length) {
                return -1;
            }
            User user = row[i];
            return user == null ? -1 : user.number;
        }

        /** -1 for all ahead of open(). */
        int tell(int what) {
            if (!isOpen()) {
                return -1;
            }
            switch (what) {
                case 0: return userCount;
                case 1: return fields;
                case 2: return quantum;
                case 3: return beat;
                case 4: return steps;
                case 5: return ticks;
                case 6: return runner == null ? -1 : runner.number;
                case 7: return rowSize;
                case 8: return swaps;
                case 9: return turn;
                case 10: return idle;
                default: return -1;
            }
        }
    }

    private static final class Tape {
        static final int MOST_BYTES = 8000;

        final byte[] bytes = new byte[MOST_BYTES];
        int length;

        boolean hasRoomFor(int n) {
            return length + n <= MOST_BYTES;
        }

        /** Four bytes, the highest first. */
        void append(int number) {
            if (!hasRoomFor(4)) {
                return;
            }
            for (int shift = 24; shift >= 0; shift -= 8) {
                bytes[length] = (byte) (number >> shift);
                length++;
            }
        }

        /** False, and nothing is done, if the tape has not n bytes. */
        boolean cut(int n) {
            if (n < 0 || n > length) {
                return false;
            }
            length = n;
            return true;
        }

        /** -1 where the tape has no byte. */
        int at(int p) {
            return p < 0 || p >= length ? -1 : bytes[p] & 0377;
        }
    }

    /** The NAMES that are told, each held as a key made of its letters. */
    private static final class Names {
        static final int LONGEST = 6;
        static final int MOST_TOLD = 200;
        static final int COUNT_AT_FIRST = 35;
        static final int NONE = -1;
        static final int MEMORY_WORDS = 6;
        static final String MEMORY = "AND TAD ISZ DCA JMS JMP ";
        static final int[] MEMORY_VALUES = {NONE, NONE, NONE, NONE, NONE, NONE};
        static final String OPERATIONS = "CLA CLL CMA CML RAR RAL RTR RTL IAC NOP ";
        static final int[] OPERATION_VALUES = {
            07200, 07100, 07040, 07020, 07010, 07004, 07012, 07006, 07001, 07000
        };
        static final String TESTS = "SMA SZA SPA SNA SNL SZL SKP OSR HLT CIA ";
        static final int[] TEST_VALUES = {
            07500, 07440, 07510, 07450, 07420, 07430, 07410, 07404, 07402, 07041
        };
        static final String DEVICES = "KSF KRB TSF TLS SLP RDB WRB WHO ";
        static final int[] DEVICE_VALUES = {
            06031, 06036, 06041, 06046, 06051, 06052, 06053, 06054
        };

        final long[] keys = new long[COUNT_AT_FIRST + MOST_TOLD];
        final int[] values = new int[COUNT_AT_FIRST + MOST_TOLD];
        int count;

        Names() {
            // MEMORY's words come first, so that their places are their numbers.
            addAll(MEMORY, MEMORY_VALUES);
            addAll(OPERATIONS, OPERATION_VALUES);
            addAll(TESTS, TEST_VALUES);
            addAll(DEVICES, DEVICE_VALUES);
            add(longer(0, 'I'), NONE);
        }

        /** Each of the words is ended by a blank. */
        private void addAll(String words, int[] itsValues) {
            long key = 0;
            int word = 0;
            for (int i = 0; i < words.length() && word < itsValues.length; i++) {
                char c = words.charAt(i);
                if (c == ' ') {
                    add(key, itsValues[word]);
                    key = 0;
                    word++;
                } else {
                    key = longer(key, c);
                }
            }
        }

        /** The key of a NAME with one more letter. */
        static long longer(long key, int letter) {
            return key << 8 | letter;
        }

        private void add(long key, int value) {
            if (count < keys.length) {
                keys[count] = key;
                values[count] = value;
                count++;
            }
        }

        /** Only what is known at first stays. */
        void forget() {
            count = COUNT_AT_FIRST;
        }

        /** The NAME's place in the table, or NONE. */
        int find(long key) {
            for (int i = 0; i < count && i < keys.length; i++) {
                if (keys[i] == key) {
                    return i;
                }
            }
            return NONE;
        }

        /** The NAME's value, or NONE. */
        int valueOf(long key) {
            int i = find(key);
            return i < 0 || i >= values.length ? NONE : values[i];
        }

        /** A FAULT, or NO_FAULT. */
        int tell(long key, int value) {
            if (find(key) != NONE) {
                return TOLD_TWICE;
            }
            if (count >= COUNT_AT_FIRST + MOST_TOLD) {
                return TOO_MANY_NAMES;
            }
            add(key, value);
            return NO_FAULT;
        }
    }

    /** Reads one STATEMENT of the tape; what it read stands in its fields. */
    private static final class Reader {
        static final int NOTHING = 0;
        static final int ORIGIN = 1;
        static final int EQUATION = 2;
        static final int MEMORY = 3;
        static final int EXPRESSIONS = 4;

        final Tape tape;
        final Names names;
        int at;
        int end;
        int dot;
        int kind;
        long key;
        int operation;
        boolean indirect;
        boolean literal;
        int value;
        boolean broken;
        boolean unknown;

        Reader(Tape tape, Names names) {
            this.tape = tape;
            this.names = names;
        }

        /** -1 behind the STATEMENT. */
        private int look(int p) {
            return p < 0 || p >= end || p >= tape.length ? -1 : tape.bytes[p] & 0377;
        }

        private static boolean isLetter(int c) {
            return c >= 'A' && c <= 'Z';
        }

        private static boolean isDigit(int c) {
            return c >= '0' && c <= '9';
        }

        private int behindBlanks(int p) {
            int q = p;
            while (q < end && (look(q) == ' ' || look(q) == '\t')) {
                q++;
            }
            return q;
        }

        /** Letters and digits that stand together are one part, whether or not it is a good one. */
        private int behindWord(int p) {
            int q = p;
            while (q < end && (isLetter(look(q)) || isDigit(look(q)))) {
                q++;
            }
            return q;
        }

        /** The key of the NAME from p to q; 0 if it is none. */
        private long keyOf(int p, int q) {
            if (!isLetter(look(p)) || q - p > Names.LONGEST) {
                return 0;
            }
            long made = 0;
            for (int i = p; i < q; i++) {
                made = Names.longer(made, look(i));
            }
            return made;
        }

        /** Goes to a STATEMENT's first part. */
        void begin(int from, int to) {
            end = to;
            at = behindBlanks(from);
        }

        /** Goes over one LABEL and leaves its key; false if none stands here. */
        boolean readLabel() {
            int q = behindWord(at);
            key = keyOf(at, q);
            if (key == 0 || look(q) != ',') {
                return false;
            }
            at = behindBlanks(q + 1);
            return true;
        }

        /** Reads what stands behind the LABELS, . being here. */
        void readBody(int here) {
            dot = here;
            value = 0;
            indirect = false;
            literal = false;
            broken = false;
            unknown = false;
            int q = behindWord(at);
            key = keyOf(at, q);
            operation = names.find(key);
            if (at >= end) {
                kind = NOTHING;
            } else if (look(at) == '*') {
                kind = ORIGIN;
                at = behindBlanks(at + 1);
                value = readExpression();
            } else if (key != 0 && look(q) == '=') {
                kind = EQUATION;
                at = behindBlanks(q + 1);
                value = readExpression();
            } else if (operation >= 0 && operation < Names.MEMORY_WORDS) {
                kind = MEMORY;
                at = behindBlanks(q);
                readMarksAhead();
                value = readExpression();
                readMarkBehind();
            } else {
                kind = EXPRESSIONS;
                value = readExpression();
                for (int i = at; i < end && hasMore(); i++) {
                    value |= readExpression();
                }
            }
            broken |= behindBlanks(at) < end;
        }

        /** Goes over the BLANKS to one more EXPRESSION; false if either is missing. */
        private boolean hasMore() {
            int next = behindBlanks(at);
            if (broken || next == at || next >= end) {
                return false;
            }
            at = next;
            return true;
        }

        private void readMarksAhead() {
            int next = behindBlanks(at + 1);
            if (look(at) == 'I' && behindWord(at) == at + 1 && beginsOperand(look(next))) {
                indirect = true;
                at = next;
            }
            if (look(at) == '(') {
                literal = true;
                at = behindBlanks(at + 1);
            }
        }

        private static boolean beginsOperand(int c) {
            return isLetter(c) || isDigit(c) || c == '.' || c == '-' || c == '(';
        }

        private void readMarkBehind() {
            int next = behindBlanks(at);
            if (literal && look(next) == ')') {
                at = next + 1;
            }
        }

        private int readExpression() {
            boolean minus = look(at) == '-';
            if (minus) {
                at++;
            }
            int sum = 0;
            for (int i = at; i <= end; i++) {
                int term = readTerm();
                sum = (minus ? sum - term : sum + term) & MASK;
                int c = look(at);
                if (broken || c != '+' && c != '-') {
                    break;
                }
                minus = c == '-';
                at++;
            }
            return sum;
        }

        private int readTerm() {
            int c = look(at);
            if (c == '.') {
                at++;
                return dot;
            }
            int q = behindWord(at);
            if (isDigit(c)) {
                return readNumber(q);
            }
            long name = keyOf(at, q);
            if (name == 0) {
                broken = true;
                return 0;
            }
            at = q;
            int found = names.valueOf(name);
            unknown |= found == Names.NONE;
            return found == Names.NONE ? 0 : found;
        }

        private int readNumber(int q) {
            broken |= q - at > 4;
            int number = 0;
            for (int p = at; p < q && !broken; p++) {
                int digit = look(p) - '0';
                broken = digit < 0 || digit > 7;
                number = number * 8 + digit;
            }
            at = q;
            return number;
        }
    }

    /** Makes the WORDS of a TEXT, and hands them over only when both PASSES are through. */
    private static final class Assembler {
        static final int FIRST_ADDRESS = 0200;
        static final int PAGE_BITS = 07600;
        static final int PLACE_BITS = 0177;
        static final int PAGES = 32;
        static final int NEWLINE = 10;

        final Tape tape;
        final Names names = new Names();
        final Reader reader;
        final int[] words = new int[WORDS];
        final boolean[] isPut = new boolean[WORDS];
        /** Where WORDS were put, so that a short TEXT need not go over the whole memory. */
        final int[] places = new int[WORDS];
        int placed;
        final int[] literals = new int[PAGES];
        int dot;
        int fault;
        int faultLine;

        Assembler(Tape tape) {
            this.tape = tape;
            reader = new Reader(tape, names);
        }

        void begin() {
            for (int i = 0; i < placed && i < WORDS; i++) {
                isPut[places[i] & MASK] = false;
            }
            placed = 0;
            Arrays.fill(literals, 0);
            names.forget();
            fault = NO_FAULT;
            faultLine = 0;
        }

        /** A PASS; it does nothing if there is a FAULT already. */
        void goOver(boolean isFirstPass) {
            dot = FIRST_ADDRESS;
            int line = 1;
            int from = 0;
            boolean remark = false;
            for (int p = 0; p <= tape.length && fault == NO_FAULT; p++) {
                int c = tape.at(p);
                boolean lineEnds = c == NEWLINE || c < 0;
                if (!remark && (lineEnds || c == ';' || c == '/')) {
                    reader.begin(from, p);
                    fault = isFirstPass ? doFirst(from, p) : doSecond();
                    faultLine = fault == NO_FAULT ? 0 : line;
                    from = p + 1;
                    remark = c == '/';
                }
                if (lineEnds) {
                    line++;
                    from = p + 1;
                    remark = false;
                }
            }
        }

        private int doFirst(int from, int to) {
            skipLabels();
            reader.readBody(dot);
            if (reader.broken) {
                return BAD_STATEMENT;
            }
            reader.begin(from, to);
            int labelFault = tellLabels();
            if (labelFault != NO_FAULT) {
                return labelFault;
            }
            // Again, for the STATEMENT's own LABELS have a value only now.
            reader.readBody(dot);
            switch (reader.kind) {
                case Reader.NOTHING:
                    return NO_FAULT;
                case Reader.ORIGIN:
                    dot = reader.value;
                    return reader.unknown ? NO_VALUE : NO_FAULT;
                case Reader.EQUATION:
                    return reader.unknown ? NO_VALUE : names.tell(reader.key, reader.value);
                default:
                    dot = dot + 1 & MASK;
                    return NO_FAULT;
            }
        }

        private void skipLabels() {
            boolean more = true;
            for (int i = 0; i < tape.length && more; i++) {
                more = reader.readLabel();
            }
        }

        private int tellLabels() {
            int found = NO_FAULT;
            for (int i = 0; i < tape.length && found == NO_FAULT && reader.readLabel(); i++) {
                found = names.tell(reader.key, dot);
            }
            return found;
        }

        private int doSecond() {
            skipLabels();
            reader.readBody(dot);
            switch (reader.kind) {
                case Reader.NOTHING:
                case Reader.EQUATION:
                    return NO_FAULT;
                case Reader.ORIGIN:
                    dot = reader.value;
                    return NO_FAULT;
                case Reader.MEMORY:
                    return reader.unknown ? NO_VALUE : putMemory();
                default:
                    return reader.unknown ? NO_VALUE : putNext(reader.value);
            }
        }

        private int putMemory() {
            int a = reader.literal ? literalFor(reader.value) : reader.value;
            if (a < 0) {
                return NO_PLACE;
            }
            boolean isOnFirstPage = a <= PLACE_BITS;
            if (!isOnFirstPage && (a & PAGE_BITS) != (dot & PAGE_BITS)) {
                return OFF_PAGE;
            }
            int w = reader.operation << 9 | (reader.indirect ? 0400 : 0);
            return putNext(w | (isOnFirstPage ? a : 0200 | a & PLACE_BITS));
        }

        /** The address of a LITERAL on the PAGE of . , put there if need be; -1 without a place. */
        private int literalFor(int literalValue) {
            int pageNumber = dot >> 7 & PAGES - 1;
            int last = dot & PAGE_BITS | PLACE_BITS;
            int there = literals[pageNumber];
            for (int i = 0; i < there; i++) {
                if (words[last - i & MASK] == literalValue) {
                    return last - i;
                }
            }
            if (there > PLACE_BITS || !put(last - there, literalValue)) {
                return -1;
            }
            literals[pageNumber] = there + 1;
            return last - there;
        }

        private int putNext(int w) {
            boolean done = put(dot, w);
            dot = dot + 1 & MASK;
            return done ? NO_FAULT : NO_PLACE;
        }

        /** False if something was put there already. */
        private boolean put(int address, int w) {
            int a = address & MASK;
            if (isPut[a] || placed >= WORDS) {
                return false;
            }
            isPut[a] = true;
            words[a] = w;
            places[placed] = a;
            placed++;
            return true;
        }

        /** How many WORDS came into memory; -2, and none come, if there is a FAULT. */
        int deliver(int[] memory) {
            if (fault != NO_FAULT) {
                return -2;
            }
            for (int i = 0; i < placed && i < WORDS; i++) {
                int a = places[i] & MASK;
                if (a < memory.length) {
                    memory[a] = words[a];
                }
            }
            return placed;
        }
    }
}
