/** Terms 4 and the promises, sentence by sentence: the edges of the calls and of their answers. */
public final class CallEdgesTest {
    private static final Check CHECK = new Check();
    private static final int LOWEST = Integer.MIN_VALUE;
    private static final int HIGHEST = Integer.MAX_VALUE;
    private static final int[] NOT_WORDS = {LOWEST, -4096, -1, 4096, 4097, 8192, HIGHEST};
    private static final int IAC = 07001;
    private static final int HLT = 07402;
    private static final int KRB = 06036;
    private static final int TLS = 06046;
    private static final int SLP = 06051;
    private static final int JMP_FIRST = 05200;

    public static void main(String[] args) {
        lastCall();
        notAUser();
        noneAheadOfOpen();
        newObject();
        openNumbers();
        openTwice();
        feedOrder();
        feedAtTheEnd();
        endOfTheTape();
        assembleCounts();
        assembleBehindALonger();
        assembleWithAFault();
        assembleRefused();
        faultOfTheLatest();
        faultOfOthers();
        pokes();
        peeks();
        stores();
        blocks();
        switchWords();
        starts();
        startOfOthers();
        keys();
        lostKeys();
        runs();
        runAheadOfOpen();
        aboutNumbers();
        aboutMachine();
        aboutSleep();
        aboutTurn();
        aboutLine();
        aboutSteps();
        lettersOnPaper();
        latest512();
        waitingLetters();
        queuedLetters();
        houseNumbers();
        houseAheadOfOpen();
        rows();
        digestAtFirst();
        digestOfUsers();
        CHECK.finish();
    }

    /** A house in which all is in use: 0 RUNS, 1 waits for a key, 2 SLEEPS, 3 is READY. */
    private static Monitor busy() {
        Monitor m = Line.opened(4, 2, 3, 50);
        Line.launch(m, 1, IAC, TLS, IAC, TLS, KRB);
        Line.launch(m, 2, IAC, 07006, SLP, HLT);
        Line.launch(m, 0, JMP_FIRST);
        Line.launch(m, 3, JMP_FIRST);
        m.run(60);
        for (int i = 0; i < 17; i++) {
            m.key(3, i);
        }
        m.key(2, 99);
        m.store(2, 5, 6, 7);
        Line.assemble(m, 3, "\n9");
        Line.type(m, "1;2;3");
        return m;
    }

    /** The tape of busy() is as it was. */
    private static void tapeStays(Monitor m) {
        CHECK.due("the tape has not 6 bytes", m.end(6), -1);
        CHECK.due("but 5", m.end(5), 5);
        CHECK.due("its WORDS", m.assemble(2), 3);
        CHECK.due("the first of them", m.peek(2, 0200), 1);
        CHECK.due("the last of them", m.peek(2, 0202), 3);
    }

    private static void lastCall() {
        CHECK.says("An object is used for at most 512 calls after it has been made;");
        Monitor m = Line.single();
        Line.launch(m, 0, IAC, JMP_FIRST);
        while (m.callsLeft() > 2) {
            m.run(1000);
        }
        CHECK.due("STEPS, in call 511", m.house(4), 506_000);
        CHECK.due("AC, in call 512", m.about(0, 1), 253_000 % 4096);
    }

    private static void notAUser() {
        CHECK.says("Calls answer -1 and change nothing, if a number is not as told: u is not a USER's number");
        int[] wrong = {LOWEST, -8, -1, 4, 5, 7, 8, 4096, HIGHEST};
        Monitor m = busy();
        String before = Line.seen(m);
        for (int u : wrong) {
            CHECK.due("assemble(" + u + ")", m.assemble(u), -1);
            CHECK.due("poke(" + u + ")", m.poke(u, 0200, 1), -1);
            CHECK.due("peek(" + u + ")", m.peek(u, 0200), -1);
            CHECK.due("store(" + u + ")", m.store(u, 0, 0, 1), -1);
            CHECK.due("block(" + u + ")", m.block(u, 0, 0), -1);
            CHECK.due("switches(" + u + ")", m.switches(u, 1), -1);
            CHECK.due("start(" + u + ")", m.start(u, 0), -1);
            CHECK.due("key(" + u + ")", m.key(u, 1), -1);
            CHECK.due("about(" + u + ")", m.about(u, 0), -1);
            CHECK.due("letter(" + u + ")", m.letter(u, 0), -1);
            CHECK.due("waiting(" + u + ")", m.waiting(u, 0), -1);
            CHECK.due("queued(" + u + ")", m.queued(u, 0), -1);
        }
        CHECK.due("what is seen behind all these", Line.seen(m), before);
        tapeStays(m);
    }

    private static void noneAheadOfOpen() {
        CHECK.says("u is not a USER's number (none ahead of open()).");
        Monitor m = new Monitor();
        Line.type(m, "5");
        for (int u = 0; u < 8; u++) {
            CHECK.due("assemble(" + u + ")", m.assemble(u), -1);
            CHECK.due("poke(" + u + ")", m.poke(u, 0200, 1), -1);
            CHECK.due("peek(" + u + ")", m.peek(u, 0200), -1);
            CHECK.due("store(" + u + ")", m.store(u, 0, 0, 1), -1);
            CHECK.due("block(" + u + ")", m.block(u, 0, 0), -1);
            CHECK.due("switches(" + u + ")", m.switches(u, 1), -1);
            CHECK.due("start(" + u + ")", m.start(u, 0), -1);
            CHECK.due("key(" + u + ")", m.key(u, 1), -1);
            CHECK.due("about(" + u + ")", m.about(u, 0), -1);
            CHECK.due("letter(" + u + ")", m.letter(u, 0), -1);
            CHECK.due("waiting(" + u + ")", m.waiting(u, 0), -1);
            CHECK.due("queued(" + u + ")", m.queued(u, 0), -1);
        }
        CHECK.due("the tape", m.end(1), 1);
        CHECK.due("open", m.open(8, 7, 64, 1000), 1);
        CHECK.due("what is seen then", Line.seen(m), Line.seen(Line.opened(8, 7, 64, 1000)));
        // SWITCHES are seen by an INSTRUCTION only: CLA OSR
        Line.launch(m, 7, 07604);
        m.run(1);
        CHECK.due("SWITCHES", m.about(7, 1), 0);
        CHECK.due("assemble of the tape", m.assemble(7), 1);
    }

    private static void newObject() {
        CHECK.says("`LineMonitor()`: Not opened; the tape is empty, no FAULT.");
        Monitor m = new Monitor();
        CHECK.due("house(0)", m.house(0), -1);
        CHECK.due("run(0)", m.run(0), -1);
        CHECK.due("end(1)", m.end(1), -1);
        CHECK.due("end(0)", m.end(0), 0);
        CHECK.due("fault(0)", m.fault(0), 0);
        CHECK.due("fault(1)", m.fault(1), 0);
        CHECK.due("feed", m.feed(0, 0, 0, 0, 0), 20);
        CHECK.due("open", m.open(1, 1, 1, 4), 1);
        // one object's calls do nothing to another
        Monitor other = new Monitor();
        CHECK.due("end(1) of another", other.end(1), -1);
        CHECK.due("house(0) of another", other.house(0), -1);
    }

    private static void openNumbers() {
        CHECK.says("users 1 to 8, fields 1 to 7, quantum 1 to 64, beat 4 to 1000.");
        int[] lowest = {1, 1, 1, 4};
        int[] highest = {8, 7, 64, 1000};
        for (int which = 0; which < 4; which++) {
            int[] edges = {lowest[which], highest[which]};
            for (int edge : edges) {
                Monitor m = new Monitor();
                CHECK.due("open with " + edge + " at " + which, openWith(m, which, edge), 1);
                CHECK.due("house(" + which + ")", m.house(which), edge);
            }
            int[] wrong = {LOWEST, -1, 0, lowest[which] - 1, highest[which] + 1, 4096, HIGHEST};
            Monitor m = new Monitor();
            for (int edge : wrong) {
                CHECK.due("open with " + edge + " at " + which, openWith(m, which, edge), -1);
                CHECK.due("house(0) behind it", m.house(0), -1);
                CHECK.due("peek behind it", m.peek(0, 0), -1);
            }
            CHECK.due("a good one behind them", m.open(2, 2, 2, 5), 1);
        }
    }

    private static int openWith(Monitor m, int which, int n) {
        int[] numbers = {2, 2, 2, 5};
        numbers[which] = n;
        return m.open(numbers[0], numbers[1], numbers[2], numbers[3]);
    }

    private static void openTwice() {
        CHECK.says("The HOUSE is opened: 1. -1 also if it was opened already.");
        Monitor m = busy();
        String before = Line.seen(m);
        CHECK.due("the same open again", m.open(4, 2, 3, 50), -1);
        CHECK.due("another open", m.open(8, 7, 64, 1000), -1);
        CHECK.due("a bad open", m.open(0, 0, 0, 0), -1);
        CHECK.due("what is seen behind them", Line.seen(m), before);
        CHECK.due("USER 4", m.peek(4, 0), -1);
        tapeStays(m);
    }

    private static void feedOrder() {
        CHECK.says("Twenty bytes come behind the tape, of each number the highest first: how many it has;");
        Monitor m = Line.single();
        CHECK.due("feed", m.feed(0x313B323B, 0x333B343B, 0x353B363B, 0x373B3130, 0x3B31313B), 20);
        CHECK.due("feed again", m.feed(0x31323B31, 0x333B3134, 0x3B31353B, 0x31363B31, 0x373B3230), 40);
        CHECK.due("assemble", m.assemble(0), 16);
        for (int i = 0; i < 16; i++) {
            CHECK.due("WORD " + i, m.peek(0, 0200 + i), i + 1);
        }
        CHECK.due("feed of an empty tape", m.feed(LOWEST, HIGHEST, -1, 0, 0), 20);
        m.end(4);
        CHECK.due("feed behind four bytes", m.feed(0, 0, 0, 0, 0), 24);
        // each byte from 128 on is one byte: a remark of them, then 7
        m.end(0);
        m.feed(0x2F8081FF, 0xFFFFFFFF, 0x80000000, 0xFEFDFC0A, 0x370A0A0A);
        CHECK.due("assemble behind a remark", m.assemble(0), 1);
        CHECK.due("its WORD", m.peek(0, 0200), 7);
        m.feed(0x0A0A0AB1, 0, 0, 0, 0);
        CHECK.due("byte 0261 is no 1", m.assemble(0), -2);
        CHECK.due("its LINE", m.fault(1), 4);
    }

    private static void feedAtTheEnd() {
        CHECK.says("-1: it would have more than 8000.");
        Monitor m = Line.single();
        // 8000 bytes of which the last one counts: all else is a remark
        for (int i = 1; i < 400; i++) {
            m.feed(0x2F2F2F2F, 0x2F2F2F2F, 0x2F2F2F2F, 0x2F2F2F2F, 0x2F2F2F0A);
        }
        CHECK.due("feed to 8000", m.feed(0x2F2F2F2F, 0x2F2F2F2F, 0x2F2F2F2F, 0x2F2F2F2F, 0x0A313233), 8000);
        CHECK.due("one more feed", m.feed(0x34343434, 0, 0, 0, 0), -1);
        CHECK.due("and one more", m.feed(-1, -1, -1, -1, -1), -1);
        CHECK.due("the tape has 8000", m.end(8001), -1);
        CHECK.due("all of them", m.end(8000), 8000);
        CHECK.due("feed behind 7999", m.end(7999) + m.feed(0, 0, 0, 0, 0), 7998);
        CHECK.due("feed behind 7981", m.end(7981) + m.feed(0, 0, 0, 0, 0), 7980);
        CHECK.due("the tape has 7981 yet", m.end(7982), -1);
        CHECK.due("feed behind 7980", m.end(7980) + m.feed(0x0A0A0A0A, 0x0A0A0A0A, 0x0A0A0A0A, 0x0A0A0A0A, 0x0A0A0A37),
                15980);
        CHECK.due("assemble of 8000 bytes", m.assemble(0), 1);
        CHECK.due("its WORD is the last byte", m.peek(0, 0200), 7);
        CHECK.due("feed behind assemble", m.feed(0, 0, 0, 0, 0), 20);
    }

    private static void endOfTheTape() {
        CHECK.says("The tape keeps its first n bytes: n. -1: it has not so many, or n is below 0.");
        Monitor m = Line.single();
        CHECK.due("end(0) of none", m.end(0), 0);
        CHECK.due("end(1) of none", m.end(1), -1);
        CHECK.due("end(-1) of none", m.end(-1), -1);
        m.feed(0x31323334, 0x3B313233, 0x37373737, 0x37373737, 0x37373737);
        CHECK.due("end(21) of 20", m.end(21), -1);
        CHECK.due("end(-1) of 20", m.end(-1), -1);
        CHECK.due("end(lowest)", m.end(LOWEST), -1);
        CHECK.due("end(highest)", m.end(HIGHEST), -1);
        CHECK.due("end(20) of 20", m.end(20), 20);
        CHECK.due("end(8) of 20", m.end(8), 8);
        CHECK.due("end(9) of 8", m.end(9), -1);
        CHECK.due("end(8) of 8", m.end(8), 8);
        CHECK.due("end(7) of 8", m.end(7), 7);
        CHECK.due("assemble of 7 bytes", m.assemble(0), 2);
        CHECK.due("the first WORD", m.peek(0, 0200), 01234);
        CHECK.due("the last WORD", m.peek(0, 0201), 012);
        m.feed(0x37000000, 0, 0, 0, 0);
        CHECK.due("end(0) of 20", m.end(0), 0);
        CHECK.due("assemble of none", m.assemble(0), 0);
        // what was cut off does not come again
        m.feed(0x31373737, 0, 0, 0, 0);
        m.end(1);
        CHECK.due("feed behind one byte", m.feed(0x0A0A0A0A, 0x0A0A0A0A, 0x0A0A0A0A, 0x0A0A0A0A, 0x0A0A0A0A), 21);
        CHECK.due("assemble of it", m.assemble(0), 1);
        CHECK.due("its WORD", m.peek(0, 0200), 1);
    }

    private static void assembleCounts() {
        CHECK.says("The tape (which is empty then) is a TEXT: its WORDS and LITERALS come into the memory of u: "
                + "how many.");
        Monitor m = Line.opened(3, 1, 1, 4);
        CHECK.due("an empty tape", m.assemble(0), 0);
        m.poke(1, 0177, 0707);
        m.poke(1, 0202, 0707);
        m.poke(1, 0376, 0707);
        CHECK.due("two WORDS and a LITERAL", Line.assemble(m, 1, "TAD (5;TAD (5"), 3);
        CHECK.due("the tape is empty", m.end(1), -1);
        CHECK.due("the first WORD", m.peek(1, 0200), 01377);
        CHECK.due("the second WORD", m.peek(1, 0201), 01377);
        CHECK.due("the LITERAL", m.peek(1, 0377), 5);
        CHECK.due("the WORD ahead", m.peek(1, 0177), 0707);
        CHECK.due("the WORD behind", m.peek(1, 0202), 0707);
        CHECK.due("the WORD ahead of the LITERAL", m.peek(1, 0376), 0707);
        CHECK.due("WORD of USER 0", m.peek(0, 0200), 0);
        CHECK.due("WORD of USER 2", m.peek(2, 0377), 0);
        CHECK.due("an empty tape again", m.assemble(1), 0);
        CHECK.due("the WORDS stay", m.peek(1, 0200), 01377);
        CHECK.due("the last USER", Line.assemble(m, 2, "*7777;1;0"), 2);
        CHECK.due("its last WORD", m.peek(2, 07777), 1);
        // the most WORDS a tape can hold, on all of memory but for 96
        m = Line.single();
        CHECK.due("4000 WORDS", Line.assemble(m, 0, "5\n".repeat(4000)), 4000);
        CHECK.due("the last of them", m.peek(0, 0200 + 3999 & 4095), 5);
        CHECK.due("the place behind it", m.peek(0, 0200 + 4000 & 4095), 0);
        CHECK.due("the place ahead of the first", m.peek(0, 0177), 0);
    }

    /** Of a longer TEXT ahead of it, with or without a FAULT, nothing comes along with a shorter one. */
    private static void assembleBehindALonger() {
        CHECK.says("its WORDS and LITERALS come into the memory of u: how many.");
        String[] longer = {"1;2;3;*7777;4;*1000;TAD (5;TAD (6", "1;2;3;*7777;4;*1000;TAD (5;TAD (6;X"};
        String[] shorter = {"", "7", "7;TAD (6"};
        int[] counts = {0, 1, 3};
        for (String before : longer) {
            for (int i = 0; i < shorter.length; i++) {
                Monitor m = Line.opened(2, 1, 1, 4);
                boolean isFaulty = before.endsWith("X");
                CHECK.due("WORDS of the longer", Line.assemble(m, 0, before), isFaulty ? -2 : 8);
                CHECK.due("WORDS of the shorter", Line.assemble(m, 1, shorter[i]), counts[i]);
                Monitor alone = Line.opened(2, 1, 1, 4);
                if (!isFaulty) {
                    Line.pokeAll(alone, 0, 0200, 1, 2, 3);
                    alone.poke(0, 07777, 4);
                    Line.pokeAll(alone, 0, 01000, 01377, 01376);
                    Line.pokeAll(alone, 0, 01176, 6, 5);
                }
                Line.pokeAll(alone, 1, 0200, i == 0 ? 0 : 7, i == 2 ? 01377 : 0);
                alone.poke(1, 0377, i == 2 ? 6 : 0);
                CHECK.due("digest behind both", m.digest(), alone.digest());
            }
        }
    }

    private static void assembleWithAFault() {
        CHECK.says("-2: it has a FAULT, and none come.");
        String[] texts = {"1;2;9", "1;2;A,A,", "1;2;A=B", "1;2;X", "1;2;TAD 400", "1;TAD (2;*200;3", "1;TAD (X"};
        int[] faults = {1, 3, 2, 2, 4, 5, 2};
        for (int i = 0; i < texts.length; i++) {
            Monitor m = busy();
            m.end(0);
            Line.assemble(m, 1, "5;TAD (6");
            long before = m.digest();
            CHECK.due("assemble of " + texts[i], Line.assemble(m, 1, texts[i]), -2);
            CHECK.due("digest behind it", m.digest(), before);
            CHECK.due("its FAULT", m.fault(0), faults[i]);
            CHECK.due("the tape is empty", m.end(1), -1);
        }
    }

    private static void assembleRefused() {
        CHECK.says("Calls answer -1 and change nothing, if a number is not as told:");
        Monitor m = busy();
        long before = m.digest();
        CHECK.due("assemble(4)", m.assemble(4), -1);
        CHECK.due("assemble(-1)", m.assemble(-1), -1);
        CHECK.due("digest", m.digest(), before);
        CHECK.due("the FAULT of before", m.fault(0), 1);
        CHECK.due("its LINE", m.fault(1), 2);
        tapeStays(m);
    }

    private static void faultOfTheLatest() {
        CHECK.says("Of the latest assemble() that was not -1: 0 the FAULT (0 without), 1 its LINE, from 1 (0 without);");
        Monitor m = Line.single();
        CHECK.due("fault(0) at first", m.fault(0), 0);
        CHECK.due("fault(1) at first", m.fault(1), 0);
        String[] texts = {"9", "\nX", "", "A,\nA,", "5", "\n\n\nTAD 400\n", "1;*200\n1", "\n", "*X"};
        int[] faults = {1, 2, 0, 3, 0, 4, 5, 0, 2};
        int[] lines = {1, 2, 0, 2, 0, 4, 2, 0, 1};
        for (int i = 0; i < texts.length; i++) {
            Line.assemble(m, 0, texts[i]);
            for (int turn = 0; turn < 2; turn++) {
                CHECK.due("FAULT " + i, m.fault(0), faults[i]);
                CHECK.due("LINE " + i, m.fault(1), lines[i]);
                CHECK.due("assemble(1)", m.assemble(1), -1);
                m.feed(0, 0, 0, 0, 0);
                m.end(0);
            }
        }
    }

    private static void faultOfOthers() {
        CHECK.says("1 its LINE, from 1 (0 without); others -1.");
        int[] others = {LOWEST, -1, 2, 3, 4096, HIGHEST};
        Monitor m = new Monitor();
        Monitor faulty = Line.single();
        Line.assemble(faulty, 0, "9");
        for (int what : others) {
            CHECK.due("fault(" + what + ")", m.fault(what), -1);
            CHECK.due("fault(" + what + ") with a FAULT", faulty.fault(what), -1);
        }
    }

    private static void pokes() {
        CHECK.says("WORD a of u becomes v: 1. a and v 0 to 4095.");
        Monitor m = busy();
        int[] edges = {0, 1, 4094, 4095};
        for (int a : edges) {
            for (int v : edges) {
                CHECK.due("poke(3, " + a + ", " + v + ")", m.poke(3, a, v), 1);
                CHECK.due("peek(3, " + a + ")", m.peek(3, a), v);
                CHECK.due("peek(2, " + a + ")", m.peek(2, a), 0);
            }
        }
        String before = Line.seen(m);
        for (int no : NOT_WORDS) {
            CHECK.due("poke at " + no, m.poke(3, no, 5), -1);
            CHECK.due("poke of " + no, m.poke(3, 5, no), -1);
        }
        CHECK.due("what is seen behind bad pokes", Line.seen(m), before);
        tapeStays(m);
    }

    private static void peeks() {
        CHECK.says("WORD a of u. a 0 to 4095.");
        Monitor m = Line.opened(2, 1, 1, 4);
        m.poke(0, 0, 11);
        m.poke(0, 4095, 12);
        m.poke(1, 0, 13);
        m.poke(1, 4095, 14);
        CHECK.due("first WORD of 0", m.peek(0, 0), 11);
        CHECK.due("last WORD of 0", m.peek(0, 4095), 12);
        CHECK.due("first WORD of 1", m.peek(1, 0), 13);
        CHECK.due("last WORD of 1", m.peek(1, 4095), 14);
        for (int no : NOT_WORDS) {
            CHECK.due("peek at " + no, m.peek(1, no), -1);
        }
    }

    private static void stores() {
        CHECK.says("WORD i (0 to 127) of BLOCK b (0 to 31) of the FILE of u becomes v (0 to 4095): 1.");
        Monitor m = busy();
        int[] words = {0, 1, 126, 127};
        int[] blocks = {0, 1, 30, 31};
        int[] values = {0, 1, 4094, 4095};
        for (int b : blocks) {
            for (int i : words) {
                int v = values[(b + i) % 4];
                CHECK.due("store", m.store(3, b, i, v), 1);
                CHECK.due("block", m.block(3, b, i), v);
            }
        }
        CHECK.due("FILE of another USER", m.block(0, 31, 127), 0);
        String before = Line.seen(m);
        int[] notBlocks = {LOWEST, -1, 32, 33, HIGHEST};
        for (int no : notBlocks) {
            CHECK.due("store to BLOCK " + no, m.store(3, no, 0, 5), -1);
        }
        int[] notPlaces = {LOWEST, -1, 128, 129, HIGHEST};
        for (int no : notPlaces) {
            CHECK.due("store to WORD " + no, m.store(3, 1, no, 5), -1);
        }
        for (int no : NOT_WORDS) {
            CHECK.due("store of " + no, m.store(3, 1, 5, no), -1);
        }
        CHECK.due("what is seen behind bad stores", Line.seen(m), before);
        tapeStays(m);
    }

    private static void blocks() {
        CHECK.says("WORD i of BLOCK b of the FILE of u.");
        Monitor m = Line.opened(2, 1, 1, 4);
        m.store(1, 0, 127, 21);
        m.store(1, 1, 0, 22);
        m.store(1, 31, 127, 23);
        CHECK.due("block(1, 0, 127)", m.block(1, 0, 127), 21);
        CHECK.due("block(1, 1, 0)", m.block(1, 1, 0), 22);
        CHECK.due("block(1, 31, 127)", m.block(1, 31, 127), 23);
        CHECK.due("block(0, 31, 127)", m.block(0, 31, 127), 0);
        int[] wrong = {LOWEST, -128, -1, 128, HIGHEST};
        for (int no : wrong) {
            CHECK.due("BLOCK " + no, m.block(1, no, 0), -1);
            CHECK.due("WORD " + no, m.block(1, 1, no), -1);
        }
        CHECK.due("BLOCK 32", m.block(1, 32, 0), -1);
        CHECK.due("BLOCK 32, WORD -1", m.block(1, 32, -1), -1);
        CHECK.due("BLOCK -1, WORD 128", m.block(1, -1, 128), -1);
    }

    private static void switchWords() {
        CHECK.says("SWITCHES of u become v (0 to 4095): 1.");
        int[] good = {0, 1, 4094, 4095};
        for (int v : good) {
            Monitor m = Line.opened(2, 1, 64, 1000);
            CHECK.due("switches of before", m.switches(1, 0525), 1);
            CHECK.due("switches(1, " + v + ")", m.switches(1, v), 1);
            for (int no : NOT_WORDS) {
                CHECK.due("switches(1, " + no + ")", m.switches(1, no), -1);
            }
            Line.launch(m, 1, 07604, HLT);
            Line.launch(m, 0, 07604, HLT);
            m.run(4);
            CHECK.due("SWITCHES of 1", m.about(1, 1), v);
            CHECK.due("SWITCHES of 0", m.about(0, 1), 0);
        }
    }

    private static void starts() {
        CHECK.says("A STOPPED USER becomes READY, PC being a (0 to 4095): 1;");
        int[] good = {0, 1, 4094, 4095};
        for (int a : good) {
            Monitor m = Line.opened(2, 1, 1, 4);
            for (int no : NOT_WORDS) {
                CHECK.due("start(1, " + no + ")", m.start(1, no), -1);
            }
            CHECK.due("STATES behind bad starts", Line.states(m), "00");
            CHECK.due("PC behind bad starts", m.about(1, 0), 0);
            CHECK.due("start(1, " + a + ")", m.start(1, a), 1);
            CHECK.due("PC", m.about(1, 0), a);
            CHECK.due("start(0, " + a + ")", m.start(0, a), 1);
            CHECK.due("PC of one that is READY", m.about(0, 0), a);
            CHECK.due("STATES", Line.states(m), "12");
        }
        // AC, L and memory stay: CMA CML; HLT, and again
        Monitor m = Line.single();
        Line.launch(m, 0, 07060, HLT);
        m.run(2);
        CHECK.due("start again", m.start(0, 0201), 1);
        CHECK.due("AC", m.about(0, 1), 07777);
        CHECK.due("L", m.about(0, 2), 1);
        m.run(1);
        CHECK.due("STATE", m.about(0, 3), 0);
        CHECK.due("PC behind HLT", m.about(0, 0), 0202);
    }

    private static void startOfOthers() {
        CHECK.says("0, and nothing is done: it is not STOPPED.");
        // 0 RUNS, 1 waits for a key, 2 SLEEPS, 3 is READY
        Monitor m = busy();
        CHECK.due("STATES", Line.states(m), "2351");
        String before = Line.seen(m);
        for (int u = 0; u < 4; u++) {
            CHECK.due("start(" + u + ", 0)", m.start(u, 0), 0);
            CHECK.due("start(" + u + ", 4095)", m.start(u, 4095), 0);
            CHECK.due("start(" + u + ", 4096)", m.start(u, 4096), -1);
            CHECK.due("start(" + u + ", -1)", m.start(u, -1), -1);
        }
        CHECK.due("what is seen behind them", Line.seen(m), before);
        tapeStays(m);
        // one that waits for room
        m = Line.single();
        Line.launch(m, 0, TLS, JMP_FIRST);
        m.run(40);
        CHECK.due("STATE", m.about(0, 3), 4);
        before = Line.seen(m);
        CHECK.due("start of one that waits for room", m.start(0, 0), 0);
        CHECK.due("what is seen behind it", Line.seen(m), before);
    }

    private static void keys() {
        CHECK.says("A key on the line of u: letter c (0 to 255) comes to the end of INPUT, and, if u waits for a key, "
                + "it becomes READY: 1;");
        Monitor m = Line.opened(2, 2, 64, 1000);
        int[] wrong = {LOWEST, -1, 256, 257, 4096, HIGHEST};
        Line.launch(m, 0, KRB, JMP_FIRST);
        m.run(2);
        String before = Line.seen(m);
        for (int c : wrong) {
            CHECK.due("key(0, " + c + ")", m.key(0, c), -1);
        }
        CHECK.due("what is seen behind bad keys", Line.seen(m), before);
        CHECK.due("a key of the other", m.key(1, 0), 1);
        CHECK.due("STATES behind it", Line.states(m), "30");
        CHECK.due("key(0, 255)", m.key(0, 255), 1);
        CHECK.due("STATES behind it", Line.states(m), "20");
        CHECK.due("key(0, 0)", m.key(0, 0), 1);
        CHECK.due("ROW", m.house(7), 0);
        CHECK.due("first letter", m.waiting(0, 0), 255);
        CHECK.due("second letter", m.waiting(0, 1), 0);
        // it waits for room, it SLEEPS: a key is not what it waits for
        m = Line.opened(2, 2, 64, 1000);
        Line.launch(m, 0, TLS, JMP_FIRST);
        Line.launch(m, 1, IAC, SLP);
        m.run(50);
        CHECK.due("STATES", Line.states(m), "45");
        m.key(0, 1);
        m.key(1, 1);
        CHECK.due("STATES behind keys", Line.states(m), "45");
    }

    private static void lostKeys() {
        CHECK.says("0: INPUT has 16, the letter is lost.");
        Monitor m = Line.opened(2, 1, 64, 1000);
        for (int i = 0; i < 15; i++) {
            m.key(1, i);
        }
        CHECK.due("key 16", m.key(1, 200), 1);
        CHECK.due("letters lost", m.about(1, 7), 0);
        CHECK.due("key 17", m.key(1, 201), 0);
        CHECK.due("letters lost behind it", m.about(1, 7), 1);
        CHECK.due("key 18", m.key(1, 202), 0);
        CHECK.due("a bad key", m.key(1, 256), -1);
        CHECK.due("letters lost behind them", m.about(1, 7), 2);
        CHECK.due("letters lost of the other", m.about(0, 7), 0);
        CHECK.due("INPUT", m.about(1, 5), 16);
        CHECK.due("the first letter", m.waiting(1, 0), 0);
        CHECK.due("the last letter", m.waiting(1, 15), 200);
        Line.launch(m, 1, KRB, JMP_FIRST);
        m.run(1);
        CHECK.due("a key when one is gone", m.key(1, 203), 1);
        CHECK.due("the last letter then", m.waiting(1, 15), 203);
        CHECK.due("letters lost then", m.about(1, 7), 2);
    }

    private static void runs() {
        CHECK.says("n STEPS (0 to 1000): how many of them were not IDLE.");
        Monitor m = busy();
        String before = Line.seen(m);
        int[] wrong = {LOWEST, -1, 1001, 1002, 4096, HIGHEST};
        for (int n : wrong) {
            CHECK.due("run(" + n + ")", m.run(n), -1);
        }
        CHECK.due("run(0)", m.run(0), 0);
        CHECK.due("what is seen behind these", Line.seen(m), before);
        tapeStays(m);
        m = Line.single();
        CHECK.due("run(1) of none", m.run(1), 0);
        CHECK.due("run(1000) of none", m.run(1000), 0);
        CHECK.due("STEPS", m.house(4), 1001);
        Line.launch(m, 0, JMP_FIRST);
        CHECK.due("run(0) of one", m.run(0), 0);
        CHECK.due("run(1) of one", m.run(1), 1);
        CHECK.due("run(1000) of one", m.run(1000), 1000);
        CHECK.due("STEPS then", m.house(4), 2002);
        m.poke(0, 0200, HLT);
        CHECK.due("run(1000) of HLT", m.run(1000), 1);
    }

    private static void runAheadOfOpen() {
        CHECK.says("-1 also ahead of open().");
        Monitor m = new Monitor();
        int[] all = {LOWEST, -1, 0, 1, 1000, 1001, HIGHEST};
        for (int n : all) {
            CHECK.due("run(" + n + ")", m.run(n), -1);
        }
        m.open(1, 1, 1, 4);
        CHECK.due("STEPS behind open", m.house(4), 0);
    }

    private static void aboutNumbers() {
        CHECK.says("Of u: 0 PC, 1 AC, 2 L, 3 STATE,");
        int[] wrong = {LOWEST, -2, -1, 12, 13, 4096, HIGHEST};
        Monitor m = Line.opened(2, 1, 1, 4);
        for (int what : wrong) {
            CHECK.due("about(1, " + what + ")", m.about(1, what), -1);
        }
        for (int what = 0; what <= 11; what++) {
            CHECK.due("about(1, " + what + ") at first", m.about(1, what), 0);
        }
    }

    private static void aboutMachine() {
        CHECK.says("0 PC, 1 AC, 2 L, 3 STATE,");
        Monitor m = Line.opened(2, 1, 64, 1000);
        // CMA CML at the last WORD
        m.poke(1, 4095, 07060);
        m.start(1, 4095);
        CHECK.due("PC", m.about(1, 0), 4095);
        m.run(1);
        CHECK.due("PC then", m.about(1, 0), 0);
        CHECK.due("AC then", m.about(1, 1), 4095);
        CHECK.due("L then", m.about(1, 2), 1);
        CHECK.due("STATE then", m.about(1, 3), 2);
        for (int what = 0; what <= 11; what++) {
            CHECK.due("about(0, " + what + ")", m.about(0, what), 0);
        }
    }

    private static void aboutSleep() {
        CHECK.says("4 TICKS to sleep (0 if it does not),");
        Monitor m = Line.opened(1, 1, 64, 10);
        // CLA IAC RAL; SLP; JMP .
        Line.launch(m, 0, 07205, SLP, 05202);
        CHECK.due("ahead of SLP", m.about(0, 4), 0);
        m.run(1);
        CHECK.due("with AC but without SLP", m.about(0, 4), 0);
        m.run(1);
        CHECK.due("behind SLP", m.about(0, 4), 2);
        m.run(8);
        CHECK.due("behind a TICK", m.about(0, 4), 1);
        m.run(9);
        CHECK.due("ahead of the last TICK", m.about(0, 4), 1);
        m.run(1);
        CHECK.due("behind the last TICK", m.about(0, 4), 0);
        m.run(30);
        CHECK.due("three TICKS later", m.about(0, 4), 0);
        // READY, not yet running
        m = Line.opened(2, 1, 64, 10);
        Line.launch(m, 0, IAC, SLP, 05202);
        Line.launch(m, 1, JMP_FIRST);
        m.run(10);
        CHECK.due("STATES", Line.states(m), "12");
        CHECK.due("of one that is READY", m.about(0, 4), 0);
    }

    private static void aboutTurn() {
        CHECK.says("10 TICKS to run (0 if it does not),");
        int[][] programs = {{HLT}, {KRB}, {IAC, SLP}, {TLS, JMP_FIRST}};
        for (int[] program : programs) {
            Monitor m = Line.opened(2, 2, 9, 100);
            Line.launch(m, 1, program);
            CHECK.due("when it RUNS", m.about(1, 10), 9);
            CHECK.due("of the other", m.about(0, 10), 0);
            m.run(99);
            CHECK.due("when it does not", m.about(1, 10), 0);
            CHECK.due("who RUNS", m.house(6), -1);
        }
        Monitor m = Line.opened(2, 2, 1, 4);
        Line.launch(m, 0, JMP_FIRST);
        Line.launch(m, 1, JMP_FIRST);
        CHECK.due("of one that is READY", m.about(1, 10), 0);
        m.run(4);
        CHECK.due("of one that was at its end", m.about(0, 10), 0);
        CHECK.due("of the next one", m.about(1, 10), 1);
    }

    private static void aboutLine() {
        CHECK.says("5 letters in INPUT, 6 in OUTPUT, 7 letters lost (modulo 4096), 8 its FIELD (0: none), "
                + "9 letters on PAPER,");
        Monitor m = Line.opened(2, 1, 64, 100);
        Line.launch(m, 1, TLS, TLS, TLS, HLT);
        for (int i = 0; i < 18; i++) {
            m.key(1, i);
        }
        m.run(100);
        int[] due = {16, 2, 2, 1, 1};
        for (int i = 0; i < due.length; i++) {
            CHECK.due("about(1, " + (5 + i) + ")", m.about(1, 5 + i), due[i]);
            CHECK.due("about(0, " + (5 + i) + ")", m.about(0, 5 + i), 0);
        }
        Line.launch(m, 0, HLT);
        CHECK.due("FIELD of who comes", m.about(0, 8), 1);
        CHECK.due("FIELD of who goes", m.about(1, 8), 0);
    }

    private static void aboutSteps() {
        CHECK.says("11 STEPS it did.");
        Monitor m = Line.opened(2, 2, 1, 4);
        Line.launch(m, 0, JMP_FIRST);
        Line.launch(m, 1, JMP_FIRST);
        m.run(4 + 3);
        CHECK.due("STEPS of 0", m.about(0, 11), 4);
        CHECK.due("STEPS of 1", m.about(1, 11), 3);
        // far more than a word can hold
        m = Line.opened(1, 1, 64, 1000);
        Line.launch(m, 0, JMP_FIRST);
        Line.runLong(m, 400_000);
        CHECK.due("STEPS it did", m.about(0, 11), 400_000);
        CHECK.due("STEPS", m.house(4), 400_000);
        CHECK.due("TICKS", m.house(5), 400);
        m = Line.opened(1, 1, 1, 4);
        Line.runLong(m, 400_000);
        CHECK.due("IDLE STEPS", m.house(10), 400_000);
        CHECK.due("TICKS of 4", m.house(5), 100_000);
    }

    private static void lettersOnPaper() {
        CHECK.says("Letter i (0 the first of all) on the PAPER of u,");
        Monitor m = Line.opened(2, 1, 64, 4);
        // letters 0, 255 and 1: TLS; CMA; TLS; CLA IAC; TLS; HLT
        Line.launch(m, 1, TLS, 07040, TLS, 07201, TLS, HLT);
        CHECK.due("letter 0 ahead of all", m.letter(1, 0), -1);
        m.run(100);
        CHECK.due("letters", m.about(1, 9), 3);
        CHECK.due("letter 0", m.letter(1, 0), 0);
        CHECK.due("letter 1", m.letter(1, 1), 255);
        CHECK.due("letter 2", m.letter(1, 2), 1);
        int[] none = {LOWEST, -512, -1, 3, 4, 512, HIGHEST};
        for (int i : none) {
            CHECK.due("letter " + i, m.letter(1, i), -1);
        }
        CHECK.due("letter 0 of the other", m.letter(0, 0), -1);
    }

    private static void latest512() {
        CHECK.says("if it is one of the latest 512 there; else -1.");
        Monitor m = Line.opened(1, 1, 64, 4);
        // IAC; TLS; JMP .-2: letter i is i + 1
        Line.launch(m, 0, IAC, TLS, JMP_FIRST);
        int[] counts = {1, 511, 512, 513, 514, 1023, 1024, 1025, 2000, 4097};
        int printed = 0;
        for (int n : counts) {
            Line.runLong(m, 4 * (n - printed));
            printed = n;
            CHECK.due("letters", m.about(0, 9), n);
            int first = Math.max(0, n - 512);
            int[] there = {first, first + 1, n - 1, (first + n) / 2};
            for (int i : there) {
                CHECK.due("letter " + i + " of " + n, m.letter(0, i), i < n && i >= 0 ? i + 1 & 255 : -1);
            }
            int[] gone = {first - 1, first - 2, n, n + 1, n + 511, n + 512, first - 512, -1};
            for (int i : gone) {
                CHECK.due("letter " + i + " of " + n, m.letter(0, i), -1);
            }
            if (n > 512) {
                CHECK.due("letter 0 of " + n, m.letter(0, 0), -1);
            }
        }
    }

    private static void waitingLetters() {
        CHECK.says("Letter i of INPUT, from 0 the next one; -1: there is none.");
        Monitor m = Line.opened(2, 1, 64, 1000);
        CHECK.due("waiting(1, 0) of none", m.waiting(1, 0), -1);
        Line.launch(m, 1, KRB, JMP_FIRST);
        m.run(1);
        // it goes round its places more than once
        for (int round = 0; round < 5; round++) {
            for (int i = 0; i < 7; i++) {
                m.key(1, 10 * round + i);
            }
            for (int i = 0; i < 7; i++) {
                CHECK.due("waiting(1, " + i + ")", m.waiting(1, i), 10 * round + i);
                CHECK.due("waiting(0, " + i + ")", m.waiting(0, i), -1);
            }
            int[] none = {LOWEST, -1, 7, 8, 15, 16, 17, HIGHEST};
            for (int i : none) {
                CHECK.due("waiting(1, " + i + ")", m.waiting(1, i), -1);
            }
            m.run(100);
            CHECK.due("waiting(1, 0) behind all", m.waiting(1, 0), -1);
        }
        CHECK.due("waiting(0, 0)", m.waiting(0, 0), -1);
    }

    private static void queuedLetters() {
        CHECK.says("Letter i of OUTPUT, from 0 the next one; -1: there is none.");
        Monitor m = Line.opened(2, 1, 64, 100);
        CHECK.due("queued(1, 0) of none", m.queued(1, 0), -1);
        Line.launch(m, 1, IAC, TLS, JMP_FIRST);
        m.run(99);
        for (int i = 0; i < 16; i++) {
            CHECK.due("queued(1, " + i + ")", m.queued(1, i), i + 1);
        }
        int[] none = {LOWEST, -1, 16, 17, HIGHEST};
        for (int i : none) {
            CHECK.due("queued(1, " + i + ")", m.queued(1, i), -1);
        }
        m.run(1);
        for (int i = 0; i < 15; i++) {
            CHECK.due("queued(1, " + i + ") behind a TICK", m.queued(1, i), i + 2);
        }
        CHECK.due("queued(1, 15) behind a TICK", m.queued(1, 15), -1);
        for (int tick = 0; tick < 20; tick++) {
            m.run(99);
            CHECK.due("next letter ahead of TICK " + tick, m.queued(1, 0), tick + 2);
            CHECK.due("last letter ahead of TICK " + tick, m.queued(1, 15), tick + 17);
            m.run(1);
        }
        CHECK.due("queued(0, 0)", m.queued(0, 0), -1);
    }

    private static void houseNumbers() {
        CHECK.says("0 USERS, 1 FIELDS, 2 QUANTUM, 3 BEAT, 4 STEPS, 5 TICKS, 6 who RUNS (-1: none), "
                + "7 how many are in the ROW, 8 SWAPS, 9 the FIELD whose TURN it is, 10 IDLE STEPS;");
        Monitor m = Line.opened(3, 5, 7, 11);
        int[] atFirst = {3, 5, 7, 11, 0, 0, -1, 0, 0, 1, 0};
        for (int what = 0; what < atFirst.length; what++) {
            CHECK.due("house(" + what + ") at first", m.house(what), atFirst[what]);
        }
        m.run(5);
        Line.launch(m, 2, JMP_FIRST);
        Line.launch(m, 0, JMP_FIRST);
        m.run(30);
        int[] then = {3, 5, 7, 11, 35, 3, 2, 1, 1, 2, 5};
        for (int what = 0; what < then.length; what++) {
            CHECK.due("house(" + what + ") then", m.house(what), then[what]);
        }
    }

    private static void houseAheadOfOpen() {
        CHECK.says("others, and all ahead of open(): -1.");
        int[] wrong = {LOWEST, -1, 11, 12, 4096, HIGHEST};
        Monitor m = new Monitor();
        for (int what = -1; what <= 12; what++) {
            CHECK.due("house(" + what + ") ahead of open", m.house(what), -1);
        }
        m.open(1, 1, 1, 4);
        for (int what : wrong) {
            CHECK.due("house(" + what + ")", m.house(what), -1);
        }
    }

    private static void rows() {
        CHECK.says("The i-th USER of the ROW, from 0; -1: there is none.");
        Monitor m = new Monitor();
        CHECK.due("row(0) ahead of open", m.row(0), -1);
        m.open(8, 1, 64, 1000);
        CHECK.due("row(0) of none", m.row(0), -1);
        for (int u = 7; u >= 0; u--) {
            Line.launch(m, u, JMP_FIRST);
        }
        for (int i = 0; i < 7; i++) {
            CHECK.due("row(" + i + ")", m.row(i), 6 - i);
        }
        int[] none = {LOWEST, -1, 7, 8, 9, HIGHEST};
        for (int i : none) {
            CHECK.due("row(" + i + ")", m.row(i), -1);
        }
        // who leaves the ROW is in it no more
        m.poke(7, 0200, HLT);
        m.run(1);
        CHECK.due("ROW behind HLT", Line.rowOf(m), "5 4 3 2 1 0");
        CHECK.due("row(6)", m.row(6), -1);
    }

    private static void digestAtFirst() {
        CHECK.says("d, of 7, goes over x: d * 31 + x, wrapping: house(0) to house(10);");
        long d = 7;
        for (int i = 0; i <= 10; i++) {
            d = d * 31 - 1;
        }
        CHECK.due("digest ahead of open", new Monitor().digest(), d);
    }

    private static void digestOfUsers() {
        CHECK.says("of each USER about(u, 0) to about(u, 11), then its WORDS, then those of its BLOCKS. Answers d.");
        for (int users = 1; users <= 8; users++) {
            Monitor m = Line.opened(users, 7, 64, 1000);
            int last = users - 1;
            m.poke(0, 0, 1);
            m.poke(last, 4095, 2);
            m.store(0, 0, 0, 3);
            m.store(0, 1, 0, 4);
            m.store(last, 31, 127, 5);
            m.key(last, 77);
            long d = 7;
            for (int what = 0; what <= 10; what++) {
                d = d * 31 + m.house(what);
            }
            for (int u = 0; u < users; u++) {
                for (int what = 0; what <= 11; what++) {
                    d = d * 31 + m.about(u, what);
                }
                for (int i = 0; i < 8192; i++) {
                    int x = u == 0 && i == 0 ? 1 : 0;
                    x = u == last && i == 4095 ? 2 : x;
                    x = u == 0 && i == 4096 ? 3 : x;
                    x = u == 0 && i == 4096 + 128 ? 4 : x;
                    x = u == last && i == 8191 ? 5 : x;
                    d = d * 31 + x;
                }
            }
            CHECK.due("digest of " + users, m.digest(), d);
            CHECK.due("digest of " + users + " again", m.digest(), d);
        }
    }
}
