/** Terms 1: the INSTRUCTIONS of a USER's machine. */
public final class MachineTest {
    private static final Check CHECK = new Check();

    public static void main(String[] args) {
        memoryReferences();
        addresses();
        autoIndex();
        subroutines();
        operations();
        rotations();
        tests();
        keysAndLetters();
        sleep();
        blocks();
        others();
        wrapping();
        CHECK.finish();
    }

    /** A machine that has done w at 0203, with AC and L as told, WORD 0101 and SWITCHES set. */
    private static Monitor done(int ac, int link, int w, int word) {
        Monitor m = Line.single();
        Line.pokeAll(m, 0, 0200, 07300, 01100, link == 1 ? 07020 : 07000, w);
        Line.pokeAll(m, 0, 0100, ac, word);
        m.switches(0, 0525);
        m.start(0, 0200);
        m.run(4);
        return m;
    }

    private static void after(int ac, int link, int w, int word, int... due) {
        Monitor m = done(ac, link, w, word);
        String call = Integer.toOctalString(w) + " with AC " + Integer.toOctalString(ac)
                + ", L " + link + ", WORD " + Integer.toOctalString(word);
        CHECK.due("PC behind " + call, m.about(0, 0), due[0]);
        CHECK.due("AC behind " + call, m.about(0, 1), due[1]);
        CHECK.due("L behind " + call, m.about(0, 2), due[2]);
        CHECK.due("WORD behind " + call, m.peek(0, 0101), due.length > 3 ? due[3] : word);
        CHECK.due("STATE behind " + call, m.about(0, 3), due.length > 4 ? due[4] : 2);
        CHECK.due("STEPS behind " + call, m.about(0, 11), 4);
    }

    private static void memoryReferences() {
        after(07070, 1, 00101, 00770, 0204, 00070, 1);
        after(07777, 0, 01101, 1, 0204, 0, 1);
        after(07777, 1, 01101, 1, 0204, 0, 0);
        after(07776, 1, 01101, 1, 0204, 07777, 1);
        after(04000, 0, 01101, 04001, 0204, 1, 1);
        after(5, 1, 02101, 6, 0204, 5, 1, 7);
        after(5, 1, 02101, 07777, 0205, 5, 1, 0);
        after(5, 1, 03101, 6, 0204, 0, 1, 5);
        after(5, 1, 04101, 6, 0102, 5, 1, 0204);
        after(5, 1, 05101, 6, 0101, 5, 1);
        after(5, 1, 05501, 04321, 04321, 5, 1);
        after(5, 1, 05503, 0, 0, 5, 1);
    }

    private static void addresses() {
        Monitor m = Line.single();
        // Bit 0200 means the PAGE of the INSTRUCTION's own address, also on its last place.
        Line.pokeAll(m, 0, 03576, 01200, 01377, 01000, 01777);
        m.poke(0, 03400, 1);
        m.poke(0, 0, 4);
        m.start(0, 03576);
        m.run(1);
        CHECK.due("TAD of its own PAGE's first place", m.about(0, 1), 1);
        m.run(1);
        CHECK.due("TAD of itself on the PAGE's last place", m.about(0, 1), 01400);
        CHECK.due("PC on the next PAGE", m.about(0, 0), 03600);
        m.run(1);
        CHECK.due("TAD on PAGE 0", m.about(0, 1), 01404);
        m.run(1);
        CHECK.due("TAD through its own PAGE's last place", m.about(0, 1), 01410);
    }

    private static void autoIndex() {
        for (int a = 07; a <= 020; a++) {
            boolean is = a >= 010 && a <= 017;
            Monitor m = Line.single();
            Line.pokeAll(m, 0, 0200, 01400 | a, 01000 | a);
            m.poke(0, a, 0500);
            Line.pokeAll(m, 0, 0500, 1, 2);
            m.start(0, 0200);
            m.run(1);
            CHECK.due("TAD I " + a, m.about(0, 1), is ? 2 : 1);
            CHECK.due("WORD behind TAD I " + a, m.peek(0, a), is ? 0501 : 0500);
            m.run(1);
            CHECK.due("WORD behind TAD " + a, m.peek(0, a), is ? 0501 : 0500);
        }
        Monitor m = Line.single();
        // On PAGE 0, bit 0200 leads to the same places.
        Line.pokeAll(m, 0, 0100, 01610, 05410);
        m.poke(0, 010, 07777);
        m.poke(0, 0, 3);
        m.start(0, 0100);
        m.run(1);
        CHECK.due("TAD I 10 on PAGE 0", m.about(0, 1), 3);
        CHECK.due("WORD 10 goes round", m.peek(0, 010), 0);
        m.run(1);
        CHECK.due("JMP I 10", m.about(0, 0), 1);
        // On another PAGE, place 010 is no such place.
        m = Line.single();
        Line.pokeAll(m, 0, 0200, 01610);
        m.poke(0, 0210, 0300);
        m.start(0, 0200);
        m.run(1);
        CHECK.due("WORD 210 behind TAD I 210", m.peek(0, 0210), 0300);
    }

    private static void subroutines() {
        Monitor m = Line.single();
        Line.pokeAll(m, 0, 0200, 04777, 07402);
        m.poke(0, 0377, 07777);
        Line.pokeAll(m, 0, 0, 05777);
        m.start(0, 0200);
        m.run(1);
        CHECK.due("JMS I leaves PC", m.peek(0, 07777), 0201);
        CHECK.due("JMS to the last WORD goes on at 0", m.about(0, 0), 0);
    }

    private static void operations() {
        after(01234, 1, 07000, 0, 0204, 01234, 1);
        after(01234, 1, 07200, 0, 0204, 0, 1);
        after(01234, 1, 07100, 0, 0204, 01234, 0);
        after(01234, 1, 07040, 0, 0204, 06543, 1);
        after(01234, 1, 07020, 0, 0204, 01234, 0);
        after(01234, 0, 07020, 0, 0204, 01234, 1);
        after(01234, 1, 07001, 0, 0204, 01235, 1);
        after(07777, 1, 07001, 0, 0204, 0, 0);
        after(07777, 0, 07001, 0, 0204, 0, 1);
        after(01234, 1, 07041, 0, 0204, 06544, 1);
        after(0, 0, 07041, 0, 0204, 0, 1);
        after(01234, 0, 07240, 0, 0204, 07777, 0);
        after(01234, 0, 07120, 0, 0204, 01234, 1);
        after(01234, 1, 07360, 0, 0204, 07777, 1);
        after(01234, 0, 07361, 0, 0204, 0, 0);
        after(01234, 1, 07002, 0, 0204, 01234, 1);
    }

    private static void rotations() {
        after(00001, 0, 07010, 0, 0204, 0, 1);
        after(00002, 1, 07010, 0, 0204, 04001, 0);
        after(00003, 0, 07012, 0, 0204, 04000, 1);
        after(00002, 1, 07012, 0, 0204, 02000, 1);
        after(04000, 0, 07004, 0, 0204, 0, 1);
        after(02000, 1, 07004, 0, 0204, 04001, 0);
        after(06000, 0, 07006, 0, 0204, 1, 1);
        after(02000, 1, 07006, 0, 0204, 2, 1);
        after(01234, 1, 07014, 0, 0204, 01234, 1);
        after(01234, 1, 07016, 0, 0204, 01234, 1);
        // IAC comes ahead of the rotation, CML too
        after(07777, 0, 07005, 0, 0204, 1, 0);
        after(0, 0, 07031, 0, 0204, 04000, 1);
    }

    private static void tests() {
        int[] negative = {03777, 04000};
        for (int ac : negative) {
            int is = ac >> 11;
            after(ac, 0, 07500, 0, 0204 + is, ac, 0);
            after(ac, 0, 07510, 0, 0205 - is, ac, 0);
        }
        for (int ac = 0; ac < 2; ac++) {
            after(ac, 0, 07440, 0, 0205 - ac, ac, 0);
            after(ac, 0, 07450, 0, 0204 + ac, ac, 0);
        }
        for (int link = 0; link < 2; link++) {
            after(5, link, 07420, 0, 0204 + link, 5, link);
            after(5, link, 07430, 0, 0205 - link, 5, link);
        }
        after(5, 0, 07410, 0, 0205, 5, 0);
        after(5, 0, 07400, 0, 0204, 5, 0);
        // one of several is enough; with 010 none may be so
        after(5, 1, 07560, 0, 0205, 5, 1);
        after(5, 1, 07570, 0, 0204, 5, 1);
        after(5, 0, 07560, 0, 0204, 5, 0);
        after(5, 0, 07570, 0, 0205, 5, 0);
        // the skip looks at AC as it was
        after(5, 0, 07640, 0, 0204, 0, 0);
        after(0, 0, 07640, 0, 0205, 0, 0);
        after(01010, 0, 07404, 0, 0204, 01535, 0);
        after(07252, 0, 07604, 0, 0204, 0525, 0);
        after(5, 0, 07402, 0, 0204, 5, 0, 0, 0);
        after(5, 1, 07716, 0, 0205, 0525, 1, 0, 0);
        after(04000, 1, 07777, 0, 0204, 04000, 1);
        after(0, 1, 07463, 0, 0204, 0, 1);
        after(0, 1, 07403, 0, 0204, 0, 1);
    }

    private static void keysAndLetters() {
        after(5, 1, 06031, 0, 0204, 5, 1);
        after(5, 1, 06036, 0, 0203, 5, 1, 0, 3);
        after(5, 1, 06041, 0, 0205, 5, 1);
        after(07525, 1, 06046, 0, 0204, 07525, 1);
        CHECK.due("TLS sends 8 bits", done(07525, 0, 06046, 0).queued(0, 0), 0125);
        Monitor m = Line.single();
        // KSF; HLT; KRB; KSF; HLT
        Line.pokeAll(m, 0, 0200, 06031, 07402, 06036, 06031, 07402);
        m.key(0, 255);
        m.start(0, 0200);
        m.run(1);
        CHECK.due("KSF with a letter skips", m.about(0, 0), 0202);
        m.run(1);
        CHECK.due("KRB", m.about(0, 1), 255);
        CHECK.due("KRB takes the letter", m.about(0, 5), 0);
        m.run(1);
        CHECK.due("KSF without a letter", m.about(0, 0), 0204);
        m = Line.single();
        // TLS; TSF; JMP .+2; JMP .-3; HLT
        Line.pokeAll(m, 0, 0200, 06046, 06041, 05204, 05200, 07402);
        m.start(0, 0200);
        m.run(47);
        CHECK.due("letters when TSF skips no more", m.about(0, 6), 16);
        CHECK.due("PC there", m.about(0, 0), 0202);
    }

    private static void sleep() {
        after(5, 1, 06051, 0, 0204, 0, 1, 0, 5);
        after(0, 1, 06051, 0, 0204, 0, 1, 0, 2);
        CHECK.due("TICKS to sleep", done(07777, 0, 06051, 0).about(0, 4), 4095);
    }

    private static void blocks() {
        Monitor m = Line.single();
        // CLA IAC; WRB; 07701; IAC; RDB; 07700
        Line.pokeAll(m, 0, 0200, 07201, 06053, 07701, 07001, 06052, 07700, 07402);
        for (int i = 0; i < 128; i++) {
            m.poke(0, 07701 + i & 07777, 1000 + i);
        }
        m.start(0, 0200);
        m.run(2);
        CHECK.due("PC behind WRB", m.about(0, 0), 0203);
        CHECK.due("AC behind WRB", m.about(0, 1), 0);
        for (int i = 0; i < 128; i++) {
            CHECK.due("BLOCK 1, WORD " + i, m.block(0, 1, i), 1000 + i);
        }
        CHECK.due("BLOCK 0, last", m.block(0, 0, 127), 0);
        CHECK.due("BLOCK 2, first", m.block(0, 2, 0), 0);
        m.run(2);
        CHECK.due("PC behind RDB", m.about(0, 0), 0206);
        CHECK.due("AC behind RDB", m.about(0, 1), 0);
        for (int i = 0; i < 128; i++) {
            CHECK.due("WORD behind RDB " + i, m.peek(0, 07700 + i & 07777), 1000 + i);
        }
        CHECK.due("WORD behind those", m.peek(0, 0100), 1127);
        int[] blocks = {31, 32, 4095};
        for (int b : blocks) {
            for (int w = 06052; w <= 06053; w++) {
                Monitor x = Line.single();
                Line.pokeAll(x, 0, 0200, 01100, w, 0500);
                Line.pokeAll(x, 0, 0100, b);
                x.poke(0, 0500, 7);
                x.store(0, 31, 0, 9);
                x.start(0, 0200);
                x.run(2);
                String call = Integer.toOctalString(w) + " of " + b;
                CHECK.due("PC behind " + call, x.about(0, 0), 0203);
                CHECK.due("AC behind " + call, x.about(0, 1), b == 31 ? 0 : 07777);
                CHECK.due("WORD behind " + call, x.peek(0, 0500), b == 31 && w == 06052 ? 9 : 7);
                CHECK.due("BLOCK behind " + call, x.block(0, 31, 0), b == 31 && w == 06053 ? 7 : 9);
            }
        }
        // The address is the last WORD, and RDB may move over its own WORDS.
        m = Line.single();
        Line.pokeAll(m, 0, 07776, 06052, 07770);
        m.store(0, 0, 6, 123);
        m.store(0, 0, 7, 124);
        m.start(0, 07776);
        m.run(1);
        CHECK.due("RDB over itself", m.peek(0, 07776), 123);
        CHECK.due("RDB over its address", m.peek(0, 07777), 124);
        CHECK.due("PC goes round", m.about(0, 0), 0);
    }

    private static void others() {
        after(5, 1, 06054, 0, 0204, 0, 1);
        Monitor m = Line.opened(8, 1, 1, 4);
        m.poke(7, 0, 06054);
        m.start(7, 0);
        m.run(1);
        CHECK.due("WHO of the last USER", m.about(7, 1), 7);
        for (int w = 06000; w < 07000; w++) {
            boolean isOther = w != 06031 && w != 06036 && w != 06041 && w != 06046
                    && (w < 06051 || w > 06054);
            if (isOther) {
                after(5, 1, w, 0, 0204, 5, 1);
            }
        }
    }

    private static void wrapping() {
        Monitor m = Line.single();
        // JMP from the last WORD; ISZ there skips round
        Line.pokeAll(m, 0, 07777, 02010);
        m.poke(0, 010, 07777);
        m.start(0, 07777);
        m.run(1);
        CHECK.due("ISZ at the last WORD skips to 1", m.about(0, 0), 1);
        m = Line.single();
        Line.pokeAll(m, 0, 07777, 07410);
        m.start(0, 07777);
        m.run(1);
        CHECK.due("SKP at the last WORD", m.about(0, 0), 1);
    }
}
