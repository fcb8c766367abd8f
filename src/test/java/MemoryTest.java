/** Promises 7 to 11 and 21: WORDS, BLOCKS, SWITCHES and the digest. */
public final class MemoryTest {
    private static final Check CHECK = new Check();
    private static final int[] NOT_WORDS = {-1, 4096, Integer.MIN_VALUE, Integer.MAX_VALUE};
    private static final int[] NOT_USERS = {-1, 2, 7, 8, Integer.MIN_VALUE, Integer.MAX_VALUE};

    public static void main(String[] args) {
        words();
        blocks();
        switchesAreOred();
        wrongUsers();
        digestOfAnUnopened();
        digestOfAnOpened();
        CHECK.finish();
    }

    private static void words() {
        Monitor m = Line.opened(2, 1, 1, 4);
        for (int a = 0; a < 4096; a += 4095) {
            CHECK.due("peek at first", m.peek(0, a), 0);
            CHECK.due("poke", m.poke(0, a, 4095 - a / 2), 1);
            CHECK.due("peek", m.peek(0, a), 4095 - a / 2);
            CHECK.due("peek of the other USER", m.peek(1, a), 0);
        }
        for (int no : NOT_WORDS) {
            CHECK.due("poke at " + no, m.poke(0, no, 1), -1);
            CHECK.due("poke of " + no, m.poke(0, 5, no), -1);
            CHECK.due("peek at " + no, m.peek(0, no), -1);
        }
        CHECK.due("WORD 5 behind bad pokes", m.peek(0, 5), 0);
    }

    private static void blocks() {
        Monitor m = Line.opened(2, 1, 1, 4);
        int n = 0;
        for (int b = 0; b < 32; b += 31) {
            for (int i = 0; i < 128; i += 127) {
                n++;
                CHECK.due("block at first", m.block(1, b, i), 0);
                CHECK.due("store", m.store(1, b, i, 4096 - n), 1);
            }
        }
        CHECK.due("block 0 0", m.block(1, 0, 0), 4095);
        CHECK.due("block 0 127", m.block(1, 0, 127), 4094);
        CHECK.due("block 31 0", m.block(1, 31, 0), 4093);
        CHECK.due("block 31 127", m.block(1, 31, 127), 4092);
        CHECK.due("block 1 0", m.block(1, 1, 0), 0);
        CHECK.due("block of the other USER", m.block(0, 0, 0), 0);
        CHECK.due("a BLOCK is not memory", m.peek(1, 0), 0);
        CHECK.due("store to BLOCK 32", m.store(1, 32, 0, 1), -1);
        CHECK.due("store to BLOCK -1", m.store(1, -1, 127, 1), -1);
        CHECK.due("store to WORD 128", m.store(1, 0, 128, 1), -1);
        CHECK.due("store to WORD -1", m.store(1, 1, -1, 1), -1);
        CHECK.due("block 32", m.block(1, 32, 0), -1);
        CHECK.due("block -1", m.block(1, -1, 0), -1);
        CHECK.due("block WORD 128", m.block(1, 0, 128), -1);
        CHECK.due("block WORD -1", m.block(1, 1, -1), -1);
        CHECK.due("block far away", m.block(1, Integer.MAX_VALUE, Integer.MAX_VALUE), -1);
        for (int no : NOT_WORDS) {
            CHECK.due("store of " + no, m.store(1, 2, 2, no), -1);
        }
        CHECK.due("WORD behind bad stores", m.block(1, 2, 2), 0);
    }

    private static void switchesAreOred() {
        Monitor m = Line.single();
        for (int no : NOT_WORDS) {
            CHECK.due("switches " + no, m.switches(0, no), -1);
        }
        // OSR; OSR; CLA OSR
        Line.pokeAll(m, 0, 0200, 07404, 07404, 07604);
        m.start(0, 0200);
        m.run(1);
        CHECK.due("SWITCHES at first", m.about(0, 1), 0);
        CHECK.due("switches", m.switches(0, 04001), 1);
        m.run(1);
        CHECK.due("AC or SWITCHES", m.about(0, 1), 04001);
        CHECK.due("switches", m.switches(0, 4095), 1);
        CHECK.due("switches", m.switches(0, 2), 1);
        m.run(1);
        CHECK.due("CLA ahead of OSR", m.about(0, 1), 2);
    }

    private static void wrongUsers() {
        Monitor m = Line.opened(2, 2, 2, 8);
        m.feed(0x310A0000, 0, 0, 0, 0);
        m.end(1);
        long before = m.digest();
        for (int u : NOT_USERS) {
            CHECK.due("assemble(" + u + ")", m.assemble(u), -1);
            CHECK.due("poke(" + u + ")", m.poke(u, 0, 1), -1);
            CHECK.due("peek(" + u + ")", m.peek(u, 0), -1);
            CHECK.due("store(" + u + ")", m.store(u, 0, 0, 1), -1);
            CHECK.due("block(" + u + ")", m.block(u, 0, 0), -1);
            CHECK.due("switches(" + u + ")", m.switches(u, 1), -1);
            CHECK.due("start(" + u + ")", m.start(u, 0), -1);
            CHECK.due("key(" + u + ")", m.key(u, 0), -1);
            CHECK.due("about(" + u + ")", m.about(u, 0), -1);
            CHECK.due("letter(" + u + ")", m.letter(u, 0), -1);
            CHECK.due("waiting(" + u + ")", m.waiting(u, 0), -1);
            CHECK.due("queued(" + u + ")", m.queued(u, 0), -1);
        }
        CHECK.due("digest behind wrong calls", m.digest(), before);
        CHECK.due("tape behind wrong calls", m.end(1), 1);
    }

    private static void digestOfAnUnopened() {
        long d = 7;
        for (int i = 0; i < 11; i++) {
            d = d * 31 - 1;
        }
        CHECK.due("digest ahead of open", new Monitor().digest(), d);
    }

    private static Monitor used() {
        Monitor m = Line.opened(3, 2, 5, 9);
        // WHO; TLS; KRB
        Line.pokeAll(m, 2, 0400, 06054, 06046, 06036);
        m.poke(1, 4095, 4095);
        m.store(0, 31, 127, 77);
        m.store(2, 1, 0, 78);
        m.start(2, 0400);
        m.start(0, 0);
        m.key(1, 200);
        m.run(29);
        return m;
    }

    /** The WORDS of memory and FILE are more than an object has calls, so new ones tell the rest. */
    private static void digestOfAnOpened() {
        Monitor m = used();
        long d = 7;
        for (int what = 0; what < 11; what++) {
            d = d * 31 + m.house(what);
        }
        for (int u = 0; u < 3; u++) {
            for (int what = 0; what < 12; what++) {
                d = d * 31 + m.about(u, what);
            }
            for (int a = 0; a < 4096; a++) {
                m = m.callsLeft() > 0 ? m : used();
                d = d * 31 + m.peek(u, a);
            }
            for (int i = 0; i < 4096; i++) {
                m = m.callsLeft() > 0 ? m : used();
                d = d * 31 + m.block(u, i / 128, i % 128);
            }
            m = used();
        }
        CHECK.due("digest", m.digest(), d);
        CHECK.due("digest again", m.digest(), d);
        m.store(2, 31, 127, 1);
        CHECK.due("digest behind a store of its last WORD", m.digest(), d + 1);
    }
}
