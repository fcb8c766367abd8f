/** Terms 1, sentence by sentence: the edges of a USER's machine. */
public final class MachineEdgesTest {
    private static final Check CHECK = new Check();
    private static final int RUNS = 2;

    public static void main(String[] args) {
        zeroAtFirst();
        numbersAreOctal();
        modulo();
        instructionsFollow();
        operationNumbers();
        placesOfAPage();
        ownPage();
        indexPlaces();
        indexOnlyThere();
        oneStepOfIndirection();
        and();
        tad();
        isz();
        dca();
        jms();
        jmp();
        bitsOfTheFirstKind();
        incrementTurnsLink();
        rotations();
        skips();
        skipsTheOtherWay();
        behindTheSkip();
        nothingWithBothBits();
        ksf();
        krb();
        krbWaits();
        tsf();
        tls();
        tlsWaits();
        slp();
        blockAddress();
        blockNumbers();
        blockGoesRound();
        blockWordByWord();
        who();
        others();
        CHECK.finish();
    }

    /** A machine with these AC, L and PC, and these WORDS from PC on; four STEPS bring it there. */
    private static Monitor set(int ac, int link, int pc, int... words) {
        Monitor m = Line.single();
        Line.pokeAll(m, 0, 0150, 07300, 01156, link == 1 ? 07020 : 07000, 05557);
        Line.pokeAll(m, 0, 0156, ac, pc);
        Line.pokeAll(m, 0, pc, words);
        m.start(0, 0150);
        m.run(4);
        return m;
    }

    private static Monitor done(int ac, int link, int pc, int... words) {
        Monitor m = set(ac, link, pc, words);
        m.run(1);
        return m;
    }

    private static String named(int ac, int link, int pc, int w) {
        return String.format("%04o at %04o with AC %04o, L %d", w, pc, ac, link);
    }

    private static void shows(String call, Monitor m, int pc, int ac, int link, int state) {
        CHECK.due("PC behind " + call, m.about(0, 0), pc);
        CHECK.due("AC behind " + call, m.about(0, 1), ac);
        CHECK.due("L behind " + call, m.about(0, 2), link);
        CHECK.due("STATE behind " + call, m.about(0, 3), state);
    }

    /** w at 0400 leads to these. */
    private static void leads(int ac, int link, int w, int pc, int acThen, int linkThen) {
        shows(named(ac, link, 0400, w), done(ac, link, 0400, w), pc, acThen, linkThen, RUNS);
    }

    private static void zeroAtFirst() {
        CHECK.says("4096 WORDS, AC, PC (12 bits), L (a bit), all 0 at first.");
        Monitor m = Line.single();
        for (int a = 0; a < 4096; a += 13) {
            CHECK.due("WORD " + a, m.peek(0, a), 0);
        }
        CHECK.due("the last WORD", m.peek(0, 4095), 0);
        CHECK.due("no WORD 4096", m.peek(0, 4096), -1);
        for (int what = 0; what <= 2; what++) {
            CHECK.due("about(0, " + what + ")", m.about(0, what), 0);
        }
        // 1 AND 0 at once, for no WORD is anything else: AC, L and memory stay 0
        m.start(0, 0);
        m.run(100);
        shows("100 WORDS of 0", m, 100, 0, 0, RUNS);
    }

    private static void numbersAreOctal() {
        CHECK.says("Numbers with a 0 ahead are octal.");
        // 06031 is 3097, and 6031 would not even be a WORD; KSF with a letter skips
        Monitor m = set(0, 0, 256, 3097);
        m.key(0, 1);
        m.run(1);
        CHECK.due("PC behind WORD 3097", m.about(0, 0), 258);
    }

    private static void modulo() {
        CHECK.says("All words and addresses have 12 bits: they are taken modulo 4096.");
        shows("TAD to 4096", done(4095, 0, 0400, 01201, 1), 0401, 0, 1, RUNS);
        shows("TAD to 8190", done(4095, 0, 0400, 01201, 4095), 0401, 4094, 1, RUNS);
        shows("NOP at 4095", done(0, 0, 4095, 07000), 0, 0, 0, RUNS);
    }

    private static void instructionsFollow() {
        CHECK.says("An INSTRUCTION w is the WORD at PC, which then is 1 greater.");
        shows("NOP at 0", done(1, 1, 0, 07000), 1, 1, 1, RUNS);
        shows("NOP at 07776", done(1, 1, 07776, 07000), 07777, 1, 1, RUNS);
        Monitor m = set(1, 1, 07777, 07000, 07001);
        m.run(2);
        shows("NOP at 07777 and IAC at 0", m, 1, 2, 1, RUNS);
        // What the INSTRUCTION before put there is done: DCA 0401 of HLT's number
        m = set(07402, 0, 0400, 03201, 07000);
        m.run(2);
        shows("a WORD that was put just ahead", m, 0402, 0, 0, 0);
    }

    private static void operationNumbers() {
        CHECK.says("Its operation is w by 512:");
        CHECK.says("0 AND, 1 TAD, 2 ISZ, 3 DCA, 4 JMS, 5 JMP:");
        int[] pc = {0401, 0401, 0402, 0401, 0, 07777};
        int[] ac = {0, 4, 5, 0, 5, 5};
        int[] link = {0, 1, 0, 0, 0, 0};
        // WORD 0577 is 07777 and so is WORD 07777; the last w of each operation goes through both
        for (int operation = 0; operation <= 5; operation++) {
            int w = operation * 512 + 0777;
            Monitor m = set(5, 0, 0400, w);
            m.poke(0, 0577, 07777);
            m.poke(0, 07777, operation == 0 ? 07772 : 07777);
            m.run(1);
            shows(named(5, 0, 0400, w), m, pc[operation], ac[operation], link[operation], RUNS);
        }
        int[] firstPc = {0401, 0401, 0401, 0401, 1, 0};
        int[] firstAc = {4, 014, 5, 0, 5, 5};
        for (int operation = 0; operation <= 5; operation++) {
            int w = operation * 512;
            Monitor m = set(5, 0, 0400, w);
            m.poke(0, 0, operation == 0 ? 6 : 7);
            m.run(1);
            shows(named(5, 0, 0400, w), m, firstPc[operation], firstAc[operation], 0, RUNS);
        }
        leads(5, 1, 06000, 0401, 5, 1);
        leads(5, 1, 06777, 0401, 5, 1);
        leads(5, 1, 07000, 0401, 5, 1);
        leads(5, 1, 07777, 0401, 5, 1);
    }

    private static void placesOfAPage() {
        CHECK.says("the address a is w and 0177;");
        int[] places = {0, 1, 0177};
        for (int place : places) {
            Monitor m = set(0, 0, 0400, 01000 | place);
            m.poke(0, place, 01234);
            m.poke(0, 0200 | place, 07);
            m.poke(0, 0600 | place, 07);
            m.run(1);
            CHECK.due("AC behind TAD " + place + " of PAGE 0", m.about(0, 1), 01234);
        }
    }

    private static void ownPage() {
        CHECK.says("with bit 0200 in w the PAGE of w's own address (its bits 07600) and that;");
        int[] owns = {0, 0177, 0200, 0377, 03400, 03577, 07600, 07777};
        for (int own : owns) {
            // DCA on the PAGE's first place, or on its last
            for (int place = 0; place <= 0177; place += 0177) {
                int there = own & 07600 | place;
                Monitor m = done(01234, 0, own, 03200 | place);
                CHECK.due(String.format("WORD %04o behind DCA at %04o", there, own), m.peek(0, there), 01234);
            }
        }
    }

    private static void indexPlaces() {
        CHECK.says("with bit 0400 then, if a is 010 to 017, WORD a becomes 1 greater; a becomes WORD a.");
        for (int a = 0; a <= 0177; a++) {
            boolean grows = a >= 010 && a <= 017;
            if (a < 0150) {
                Monitor m = set(0, 0, 0400, 01400 | a);
                m.poke(0, a, 01000);
                Line.pokeAll(m, 0, 01000, 1, 2);
                m.run(1);
                CHECK.due("AC behind TAD I of " + a, m.about(0, 1), grows ? 2 : 1);
                CHECK.due("WORD behind TAD I of " + a, m.peek(0, a), grows ? 01001 : 01000);
            }
        }
        for (int a = 010; a <= 017; a += 7) {
            Monitor m = set(0, 0, 0400, 01400 | a);
            m.poke(0, a, 07777);
            m.poke(0, 0, 5);
            m.poke(0, 07777, 6);
            m.run(1);
            CHECK.due("AC behind TAD I through 07777", m.about(0, 1), 5);
            CHECK.due("WORD " + a + " goes round", m.peek(0, a), 0);
            CHECK.due("L stays", m.about(0, 2), 0);
        }
    }

    private static void indexOnlyThere() {
        CHECK.says("with bit 0400 then, if a is 010 to 017, WORD a becomes 1 greater;");
        // without bit 0400
        Monitor m = set(0, 0, 0400, 01010);
        m.poke(0, 010, 01000);
        m.run(1);
        CHECK.due("AC behind TAD 010", m.about(0, 1), 01000);
        CHECK.due("WORD behind TAD 010", m.peek(0, 010), 01000);
        // on a PAGE that is not the first, the same place is another address
        for (int place = 010; place <= 017; place++) {
            m = set(0, 0, 0400, 01600 | place);
            m.poke(0, 0400 | place, 01000);
            m.poke(0, 01000, 1);
            m.run(1);
            CHECK.due("AC behind TAD I of 0400 + " + place, m.about(0, 1), 1);
            CHECK.due("WORD behind TAD I of 0400 + " + place, m.peek(0, 0400 | place), 01000);
            CHECK.due("WORD of PAGE 0", m.peek(0, place), 0);
        }
        // on the first PAGE, bit 0200 makes no difference
        m = set(0, 0, 020, 01617);
        m.poke(0, 017, 01000);
        m.poke(0, 01001, 3);
        m.run(1);
        CHECK.due("AC behind TAD I 017 on PAGE 0", m.about(0, 1), 3);
        CHECK.due("WORD behind TAD I 017 on PAGE 0", m.peek(0, 017), 01001);
    }

    private static void oneStepOfIndirection() {
        CHECK.says("a becomes WORD a.");
        // a that is 010 only by way of another WORD is no such place
        Monitor m = set(0, 0, 0400, 01420);
        m.poke(0, 020, 010);
        m.poke(0, 010, 0123);
        m.run(1);
        CHECK.due("AC behind TAD I to 010", m.about(0, 1), 0123);
        CHECK.due("WORD 010 stays", m.peek(0, 010), 0123);
        // the WORD that grew leads to itself
        m = set(0555, 0, 0400, 03410);
        m.poke(0, 010, 7);
        m.run(1);
        CHECK.due("WORD 010 behind DCA I to itself", m.peek(0, 010), 0555);
        m = set(0, 0, 0400, 02417);
        m.poke(0, 017, 016);
        m.run(1);
        CHECK.due("WORD 017 behind ISZ I to itself", m.peek(0, 017), 020);
        CHECK.due("PC behind ISZ I to itself", m.about(0, 0), 0401);
    }

    private static void and() {
        CHECK.says("AND: AC and WORD a.");
        shows("AND of all bits", done(07777, 1, 0400, 0201, 07777), 0401, 07777, 1, RUNS);
        shows("AND of no bit", done(07777, 1, 0400, 0201, 0), 0401, 0, 1, RUNS);
        shows("AND of some bits", done(06543, 0, 0400, 0201, 04001), 0401, 04001, 0, RUNS);
    }

    private static void tad() {
        CHECK.says("TAD: AC plus WORD a; from 4096 on L is turned.");
        for (int link = 0; link <= 1; link++) {
            shows("4095 + 0", done(4095, link, 0400, 01201, 0), 0401, 4095, link, RUNS);
            shows("0 + 4095", done(0, link, 0400, 01201, 4095), 0401, 4095, link, RUNS);
            shows("2048 + 2047", done(2048, link, 0400, 01201, 2047), 0401, 4095, link, RUNS);
            shows("2048 + 2048", done(2048, link, 0400, 01201, 2048), 0401, 0, 1 - link, RUNS);
            shows("1 + 4095", done(1, link, 0400, 01201, 4095), 0401, 0, 1 - link, RUNS);
            shows("2 + 4095", done(2, link, 0400, 01201, 4095), 0401, 1, 1 - link, RUNS);
            shows("4095 + 4095", done(4095, link, 0400, 01201, 4095), 0401, 4094, 1 - link, RUNS);
        }
    }

    private static void isz() {
        CHECK.says("ISZ: WORD a becomes 1 greater; if it is 0, PC too.");
        int[] before = {0, 1, 07775, 07776, 07777};
        for (int word : before) {
            boolean skips = word == 07777;
            Monitor m = done(5, 1, 0400, 02202, 07402, word);
            shows("ISZ of " + word, m, skips ? 0402 : 0401, 5, 1, RUNS);
            CHECK.due("WORD behind ISZ of " + word, m.peek(0, 0402), skips ? 0 : word + 1);
        }
        int[] owns = {07775, 07776, 07777};
        for (int own : owns) {
            Monitor m = set(0, 0, own, 02100);
            m.poke(0, 0100, 07777);
            m.run(1);
            CHECK.due("PC behind an ISZ that skips at " + own, m.about(0, 0), own + 2 & 07777);
        }
    }

    private static void dca() {
        CHECK.says("DCA: WORD a becomes AC, AC 0.");
        Monitor m = done(07777, 1, 0400, 03201, 5);
        shows("DCA", m, 0401, 0, 1, RUNS);
        CHECK.due("WORD behind DCA", m.peek(0, 0401), 07777);
        m = done(0, 0, 0400, 03201, 5);
        CHECK.due("WORD behind DCA of 0", m.peek(0, 0401), 0);
    }

    private static void jms() {
        CHECK.says("JMS: WORD a becomes PC, PC a + 1.");
        Monitor m = set(5, 1, 0400, 04500);
        m.poke(0, 0100, 07777);
        m.run(1);
        shows("JMS to 07777", m, 0, 5, 1, RUNS);
        CHECK.due("WORD 07777 behind it", m.peek(0, 07777), 0401);
        m = done(5, 1, 07777, 04100);
        shows("JMS at 07777", m, 0101, 5, 1, RUNS);
        CHECK.due("WORD behind JMS at 07777", m.peek(0, 0100), 0);
        m = done(5, 1, 0400, 04200);
        shows("JMS to itself", m, 0401, 5, 1, RUNS);
        CHECK.due("WORD behind JMS to itself", m.peek(0, 0400), 0401);
    }

    private static void jmp() {
        CHECK.says("JMP: PC becomes a.");
        shows("JMP to 0", done(5, 1, 0400, 05000), 0, 5, 1, RUNS);
        shows("JMP to itself", done(5, 1, 07777, 05377), 07777, 5, 1, RUNS);
        Monitor m = set(5, 1, 0400, 05500);
        m.poke(0, 0100, 07777);
        m.run(1);
        shows("JMP I to 07777", m, 07777, 5, 1, RUNS);
    }

    /** All 256 of the first kind, each bit by the document's order, from several AC and L. */
    private static void bitsOfTheFirstKind() {
        CHECK.says("7 without bit 0400, in this order, each if its bit is in w: 0200 AC is 0; 0100 L is 0; "
                + "040 all bits of AC are turned; 020 L is turned;");
        int[] acs = {0, 1, 04000, 07777, 05252};
        for (int w = 07000; w < 07400; w++) {
            for (int link = 0; link <= 1; link++) {
                int ac = acs[w % acs.length];
                int both = firstKind(w, link * 4096 + ac);
                leads(ac, link, w, 0401, both % 4096, both / 4096);
            }
        }
    }

    private static int firstKind(int w, int before) {
        int both = before;
        both -= (w & 0200) != 0 ? both % 4096 : 0;
        both -= (w & 0100) != 0 ? both / 4096 * 4096 : 0;
        both = (w & 040) != 0 ? both / 4096 * 4096 + 4095 - both % 4096 : both;
        both = (w & 020) != 0 ? (both + 4096) % 8192 : both;
        both = (w & 1) != 0 ? (both + 1) % 8192 : both;
        int times = (w & 2) != 0 ? 2 : 1;
        for (int i = 0; i < times && (w & 014) == 010; i++) {
            both = both / 2 + both % 2 * 4096;
        }
        for (int i = 0; i < times && (w & 014) == 4; i++) {
            both = both * 2 % 8192 + both / 4096;
        }
        return both;
    }

    private static void incrementTurnsLink() {
        CHECK.says("01 AC is 1 greater (from 4096 on L is turned);");
        for (int link = 0; link <= 1; link++) {
            leads(07776, link, 07001, 0401, 07777, link);
            leads(07777, link, 07001, 0401, 0, 1 - link);
            leads(0, link, 07001, 0401, 1, link);
            leads(0, link, 07041, 0401, 0, 1 - link);
            leads(1, link, 07041, 0401, 07777, link);
        }
    }

    private static void rotations() {
        CHECK.says("010 L and AC as 13 bits (L the highest) go round by one to the right, 04 by one to the left "
                + "(both: neither), by two with 02.");
        for (int bit = 0; bit < 13; bit++) {
            turned(bit, 07010, bit + 12);
            turned(bit, 07012, bit + 11);
            turned(bit, 07004, bit + 1);
            turned(bit, 07006, bit + 2);
            turned(bit, 07014, bit);
            turned(bit, 07016, bit);
            turned(bit, 07002, bit);
        }
    }

    /** The one bit that is 1 comes to another place; bit 12 is L. */
    private static void turned(int bit, int w, int then) {
        int both = 1 << bit;
        int due = 1 << then % 13;
        leads(both & 07777, both >> 12, w, 0401, due & 07777, due >> 12);
    }

    private static void skips() {
        CHECK.says("7 with bit 0400 and without 01: it skips (PC is 1 greater), if one of these is so whose bit is "
                + "in w: 0100 AC is 2048 or more, 040 AC is 0, 020 L is 1;");
        int[] acs = {0, 1, 2047, 2048, 4095};
        for (int ac : acs) {
            for (int link = 0; link <= 1; link++) {
                leads(ac, link, 07500, ac >= 2048 ? 0402 : 0401, ac, link);
                leads(ac, link, 07440, ac == 0 ? 0402 : 0401, ac, link);
                leads(ac, link, 07420, link == 1 ? 0402 : 0401, ac, link);
                leads(ac, link, 07540, ac == 0 || ac >= 2048 ? 0402 : 0401, ac, link);
                leads(ac, link, 07560, ac == 0 || ac >= 2048 || link == 1 ? 0402 : 0401, ac, link);
                leads(ac, link, 07400, 0401, ac, link);
            }
        }
        int[] owns = {07775, 07776, 07777};
        for (int own : owns) {
            shows("a skip at " + own, done(0, 0, own, 07440), own + 2 & 07777, 0, 0, RUNS);
        }
    }

    private static void skipsTheOtherWay() {
        CHECK.says("with bit 010: if none of them is so.");
        int[] acs = {0, 1, 2047, 2048, 4095};
        for (int ac : acs) {
            for (int link = 0; link <= 1; link++) {
                leads(ac, link, 07510, ac >= 2048 ? 0401 : 0402, ac, link);
                leads(ac, link, 07450, ac == 0 ? 0401 : 0402, ac, link);
                leads(ac, link, 07430, link == 1 ? 0401 : 0402, ac, link);
                leads(ac, link, 07550, ac == 0 || ac >= 2048 ? 0401 : 0402, ac, link);
                leads(ac, link, 07570, ac == 0 || ac >= 2048 || link == 1 ? 0401 : 0402, ac, link);
                leads(ac, link, 07410, 0402, ac, link);
            }
        }
    }

    private static void behindTheSkip() {
        CHECK.says("Then 0200: AC is 0; 04: AC or SWITCHES; 02: the USER is STOPPED.");
        // the skip looks at AC as it was, whatever becomes of it
        leads(5, 0, 07640, 0401, 0, 0);
        leads(0, 0, 07640, 0402, 0, 0);
        leads(04000, 0, 07700, 0402, 0, 0);
        leads(04000, 1, 07600, 0401, 0, 1);
        int[] words = {07404, 07604, 07402, 07606, 07412, 07416, 07646};
        int[] pcs = {0401, 0401, 0401, 0401, 0402, 0402, 0401};
        int[] acs = {07071, 07001, 070, 07001, 070, 07071, 07001};
        for (int i = 0; i < words.length; i++) {
            Monitor m = set(070, 1, 0400, words[i]);
            m.switches(0, 07001);
            m.run(1);
            shows(named(070, 1, 0400, words[i]), m, pcs[i], acs[i], 1, (words[i] & 2) != 0 ? 0 : RUNS);
        }
        // a STOPPED USER does no more
        Monitor m = done(5, 0, 07777, 07402, 07001);
        CHECK.due("run behind HLT", m.run(10), 0);
        shows("HLT at 07777", m, 0, 5, 0, 0);
    }

    private static void nothingWithBothBits() {
        CHECK.says("With 0400 and 01: nothing.");
        for (int w = 07401; w <= 07777; w += 2) {
            Monitor m = set(04000, 1, 0400, w);
            m.switches(0, 0777);
            m.run(1);
            shows(named(04000, 1, 0400, w), m, 0401, 04000, 1, RUNS);
        }
    }

    private static void typeKeys(Monitor m, int howMany) {
        for (int i = 0; i < howMany; i++) {
            m.key(0, 0101 + i);
        }
    }

    private static void ksf() {
        CHECK.says("6: 06031 KSF skips, if INPUT has letters.");
        int[] letters = {0, 1, 16};
        for (int n : letters) {
            Monitor m = set(5, 1, 0400, 06031);
            typeKeys(m, n);
            m.run(1);
            shows("KSF with " + n + " letters", m, n == 0 ? 0401 : 0402, 5, 1, RUNS);
            CHECK.due("INPUT behind KSF", m.about(0, 5), n);
        }
        Monitor m = set(5, 1, 07777, 06031);
        typeKeys(m, 1);
        m.run(1);
        shows("KSF at 07777", m, 1, 5, 1, RUNS);
    }

    private static void krb() {
        CHECK.says("06036 KRB: AC becomes the first letter of INPUT, which goes;");
        int[] letters = {0, 1, 255};
        for (int c : letters) {
            Monitor m = set(07777, 1, 0400, 06036, 06036);
            m.key(0, c);
            m.key(0, 0123);
            m.run(1);
            shows("KRB of letter " + c, m, 0401, c, 1, RUNS);
            CHECK.due("INPUT behind KRB", m.about(0, 5), 1);
            CHECK.due("the next one", m.waiting(0, 0), 0123);
            m.run(1);
            shows("KRB of the last letter", m, 0402, 0123, 1, RUNS);
            CHECK.due("INPUT is empty", m.about(0, 5), 0);
        }
        Monitor m = set(0, 0, 0400, 06036);
        typeKeys(m, 16);
        m.run(1);
        shows("KRB of a full INPUT", m, 0401, 0101, 0, RUNS);
        CHECK.due("INPUT behind it", m.about(0, 5), 15);
        CHECK.due("its last letter", m.waiting(0, 14), 0120);
        CHECK.due("there is room for one", m.key(0, 7), 1);
        CHECK.due("but not for two", m.key(0, 7), 0);
    }

    private static void krbWaits() {
        CHECK.says("without one the USER waits for a key, and PC is this INSTRUCTION's address again.");
        int[] owns = {0, 0400, 07777};
        for (int own : owns) {
            Monitor m = done(05432, 1, own, 06036);
            shows("KRB without a letter at " + own, m, own, 05432, 1, 3);
            CHECK.due("run then", m.run(5), 0);
            m.key(0, 0);
            shows("the key", m, own, 05432, 1, RUNS);
            CHECK.due("the letter is still there", m.about(0, 5), 1);
            m.run(1);
            shows("KRB again", m, own + 1 & 07777, 0, 1, RUNS);
        }
    }

    /** A machine at 0400 with n letters in OUTPUT. */
    private static Monitor sending(int ac, int n, int w) {
        Monitor m = set(ac, 1, 0400);
        for (int i = 0; i < n; i++) {
            m.poke(0, 0400 + i, 06046);
        }
        m.poke(0, 0400 + n, w);
        m.run(n);
        return m;
    }

    private static void tsf() {
        CHECK.says("06041 TSF skips, if OUTPUT has less than 16 letters.");
        int[] letters = {0, 1, 15, 16};
        for (int n : letters) {
            Monitor m = sending(5, n, 06041);
            m.run(1);
            shows("TSF with " + n + " letters", m, 0400 + n + (n < 16 ? 2 : 1), 5, 1, RUNS);
            CHECK.due("OUTPUT behind TSF", m.about(0, 6), n);
        }
    }

    private static void tls() {
        CHECK.says("06046 TLS: the lowest 8 bits of AC come to the end of OUTPUT;");
        int[] acs = {0, 0377, 0400, 07777, 07400};
        for (int ac : acs) {
            Monitor m = done(ac, 1, 0400, 06046);
            shows("TLS", m, 0401, ac, 1, RUNS);
            CHECK.due("OUTPUT behind TLS of " + ac, m.about(0, 6), 1);
            CHECK.due("the letter of " + ac, m.queued(0, 0), ac % 256);
        }
        Monitor m = set(0, 0, 0400, 07001, 06046, 05200);
        m.run(48);
        for (int i = 0; i < 16; i++) {
            CHECK.due("letter " + i + " of OUTPUT", m.queued(0, i), i + 1);
        }
    }

    private static void tlsWaits() {
        CHECK.says("if it has 16 the USER waits for room, PC is its address again.");
        Monitor m = sending(5, 15, 06046);
        m.run(1);
        shows("TLS of letter 16", m, 0420, 5, 1, RUNS);
        CHECK.due("OUTPUT with 16", m.about(0, 6), 16);
        m = sending(5, 16, 06046);
        m.run(1);
        shows("TLS of letter 17", m, 0420, 5, 1, 4);
        CHECK.due("OUTPUT still has 16", m.about(0, 6), 16);
        CHECK.due("run then", m.run(5), 0);
        // at the last address, too
        m = sending(5, 16, 05500);
        m.poke(0, 0100, 07777);
        m.poke(0, 07777, 06046);
        m.run(2);
        shows("TLS of letter 17 at 07777", m, 07777, 5, 1, 4);
    }

    private static void slp() {
        CHECK.says("06051 SLP: if AC is not 0, the USER SLEEPS for AC TICKS, and AC is 0.");
        int[] acs = {0, 1, 2, 4095};
        for (int ac : acs) {
            Monitor m = done(ac, 1, 0400, 06051);
            shows("SLP of " + ac, m, 0401, 0, 1, ac == 0 ? RUNS : 5);
            CHECK.due("TICKS to sleep behind SLP of " + ac, m.about(0, 4), ac);
        }
    }

    private static void blockAddress() {
        CHECK.says("06052 RDB, 06053 WRB: the WORD at PC is an address a, PC is 1 greater;");
        int[] owns = {0400, 07775, 07776, 07777};
        for (int own : owns) {
            for (int w = 06052; w <= 06053; w++) {
                Monitor m = set(3, 1, own, w, 01000);
                m.store(0, 3, 0, 0111);
                m.poke(0, 01000, 0222);
                m.run(1);
                shows(named(3, 1, own, w), m, own + 2 & 07777, 0, 1, RUNS);
                CHECK.due("WORD", m.peek(0, 01000), w == 06052 ? 0111 : 0222);
                CHECK.due("BLOCK", m.block(0, 3, 0), w == 06052 ? 0111 : 0222);
            }
        }
    }

    private static void blockNumbers() {
        CHECK.says("AC 0 to 31 is a BLOCK of its FILE:");
        CHECK.says("another AC: nothing moves, AC is 07777.");
        int[] acs = {0, 1, 31, 32, 33, 63, 64, 2048, 4095};
        for (int ac : acs) {
            for (int w = 06052; w <= 06053; w++) {
                Monitor m = set(ac, 1, 0400, w, 01000);
                for (int b = 0; b < 32; b++) {
                    m.store(0, b, 0, 0100 + b);
                    m.store(0, b, 127, 0200 + b);
                }
                m.poke(0, 01000, 7);
                m.poke(0, 01177, 8);
                m.run(1);
                String call = named(ac, 1, 0400, w);
                boolean moves = ac <= 31;
                shows(call, m, 0402, moves ? 0 : 07777, 1, RUNS);
                boolean in = moves && w == 06052;
                CHECK.due("first WORD behind " + call, m.peek(0, 01000), in ? 0100 + ac : 7);
                CHECK.due("last WORD behind " + call, m.peek(0, 01177), in ? 0200 + ac : 8);
                for (int b = 0; b < 32; b++) {
                    boolean out = w == 06053 && b == ac;
                    CHECK.due("BLOCK " + b + " behind " + call, m.block(0, b, 0), out ? 7 : 0100 + b);
                    CHECK.due("end of BLOCK " + b + " behind " + call, m.block(0, b, 127), out ? 8 : 0200 + b);
                }
            }
        }
    }

    private static void blockGoesRound() {
        CHECK.says("128 WORDS from a on (behind 4095 comes 0) become those of the BLOCK, or (WRB) the other way, "
                + "one by one, and AC is 0;");
        int[] addresses = {0, 0200, 07577, 07600, 07601, 07776, 07777};
        for (int a : addresses) {
            int own = a < 02000 || a > 07000 ? 03000 : 0400;
            Monitor m = set(31, 0, own, 06052, a);
            int before = a - 1 & 07777;
            int behind = a + 128 & 07777;
            Line.pokeAll(m, 0, before, 0707);
            Line.pokeAll(m, 0, behind, 0606);
            for (int i = 0; i < 128; i++) {
                m.store(0, 31, i, 01000 + i);
            }
            m.run(1);
            for (int i = 0; i < 128; i++) {
                CHECK.due("WORD " + i + " from " + a + " on", m.peek(0, a + i & 07777), 01000 + i);
            }
            CHECK.due("WORD ahead of " + a, m.peek(0, before), 0707);
            CHECK.due("WORD behind those from " + a, m.peek(0, behind), 0606);
            m = set(31, 0, own, 06053, a);
            for (int i = 0; i < 128; i++) {
                m.poke(0, a + i & 07777, 02000 + i);
            }
            m.store(0, 30, 127, 0505);
            m.run(1);
            for (int i = 0; i < 128; i++) {
                CHECK.due("WRB, WORD " + i + " from " + a + " on", m.block(0, 31, i), 02000 + i);
            }
            CHECK.due("WRB, the BLOCK ahead", m.block(0, 30, 127), 0505);
            shows("WRB from " + a, m, own + 2, 0, 0, RUNS);
        }
    }

    private static void blockWordByWord() {
        CHECK.says("one by one, and AC is 0;");
        // RDB over the WORD that holds its own address, and over itself: a was read before
        Monitor m = set(0, 1, 0400, 06052, 0377);
        for (int i = 0; i < 128; i++) {
            m.store(0, 0, i, 07000 + i);
        }
        m.run(1);
        CHECK.due("the WORD ahead of RDB", m.peek(0, 0377), 07000);
        CHECK.due("RDB's own place", m.peek(0, 0400), 07001);
        CHECK.due("its address's place", m.peek(0, 0401), 07002);
        CHECK.due("the last WORD", m.peek(0, 0576), 07177);
        CHECK.due("the WORD behind it", m.peek(0, 0577), 0);
        shows("RDB over itself", m, 0402, 0, 1, RUNS);
    }

    private static void who() {
        CHECK.says("06054 WHO: AC becomes the USER's number.");
        for (int u = 0; u < 8; u++) {
            Monitor m = Line.opened(8, 1, 64, 1000);
            Line.launch(m, u, 07240, 06054);
            m.run(2);
            CHECK.due("AC of USER " + u, m.about(u, 1), u);
            CHECK.due("PC of USER " + u, m.about(u, 0), 0202);
        }
    }

    private static void others() {
        CHECK.says("Others: nothing.");
        for (int w = 06000; w <= 06777; w++) {
            boolean isOther = w != 06031 && w != 06036 && w != 06041 && w != 06046 && (w < 06051 || w > 06054);
            if (isOther) {
                Monitor m = set(5, 1, 0400, w, 01000);
                m.key(0, 0101);
                m.run(1);
                shows(named(5, 1, 0400, w), m, 0401, 5, 1, RUNS);
                CHECK.due("INPUT", m.about(0, 5), 1);
                CHECK.due("OUTPUT", m.about(0, 6), 0);
            }
        }
    }
}
