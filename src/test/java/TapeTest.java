/** Promises 1, 3 and 4: the tape. */
public final class TapeTest {
    private static final Check CHECK = new Check();

    public static void main(String[] args) {
        newObject();
        callsAheadOfOpenLeaveNothing();
        feedTellsTheLength();
        bytesComeHighestFirst();
        tapeIsFullAt8000();
        endKeepsTheFirst();
        CHECK.finish();
    }

    private static void newObject() {
        Monitor m = new Monitor();
        CHECK.due("end(0) of a new object", m.end(0), 0);
        CHECK.due("end(1) of a new object", m.end(1), -1);
        CHECK.due("fault(0) of a new object", m.fault(0), 0);
        CHECK.due("fault(1) of a new object", m.fault(1), 0);
        CHECK.due("fault(2) of a new object", m.fault(2), -1);
        CHECK.due("fault(-1) of a new object", m.fault(-1), -1);
        for (int what = -1; what <= 11; what++) {
            CHECK.due("house(" + what + ") ahead of open", m.house(what), -1);
        }
        CHECK.due("row(0) ahead of open", m.row(0), -1);
        CHECK.due("run(0) ahead of open", m.run(0), -1);
        CHECK.due("about(0, 0) ahead of open", m.about(0, 0), -1);
        CHECK.due("assemble(0) ahead of open", m.assemble(0), -1);
        CHECK.due("poke ahead of open", m.poke(0, 0, 0), -1);
        CHECK.due("peek ahead of open", m.peek(0, 0), -1);
        CHECK.due("store ahead of open", m.store(0, 0, 0, 0), -1);
        CHECK.due("block ahead of open", m.block(0, 0, 0), -1);
        CHECK.due("switches ahead of open", m.switches(0, 0), -1);
        CHECK.due("start ahead of open", m.start(0, 0), -1);
        CHECK.due("key ahead of open", m.key(0, 0), -1);
        CHECK.due("letter ahead of open", m.letter(0, 0), -1);
        CHECK.due("waiting ahead of open", m.waiting(0, 0), -1);
        CHECK.due("queued ahead of open", m.queued(0, 0), -1);
    }

    /** The USERS' rows are there ahead of open(), so a call could come at them too early. */
    private static void callsAheadOfOpenLeaveNothing() {
        Monitor m = new Monitor();
        Line.type(m, "HLT");
        for (int u = -1; u <= 8; u++) {
            CHECK.due("assemble(" + u + ") ahead of open", m.assemble(u), -1);
            CHECK.due("poke(" + u + ") ahead of open", m.poke(u, 0, 1), -1);
            CHECK.due("store(" + u + ") ahead of open", m.store(u, 0, 0, 1), -1);
            CHECK.due("switches(" + u + ") ahead of open", m.switches(u, 1), -1);
            CHECK.due("start(" + u + ") ahead of open", m.start(u, 0), -1);
            CHECK.due("key(" + u + ") ahead of open", m.key(u, 65), -1);
            CHECK.due("about(" + u + ", 3) ahead of open", m.about(u, 3), -1);
        }
        CHECK.due("run(1000) ahead of open", m.run(1000), -1);
        CHECK.due("a bad open", m.open(8, 7, 64, 1001), -1);
        CHECK.due("house(0) behind a bad open", m.house(0), -1);
        CHECK.due("peek behind a bad open", m.peek(0, 0), -1);
        CHECK.due("the tape behind all these", m.end(3), 3);
        CHECK.due("open behind all these", m.open(8, 7, 64, 1000), 1);
        CHECK.due("digest behind all these", m.digest(), Line.opened(8, 7, 64, 1000).digest());
        Line.pokeAll(m, 0, 0, 07404, 07402);
        m.start(0, 0);
        m.run(2);
        CHECK.due("SWITCHES behind all these", m.about(0, 1), 0);
    }

    private static void feedTellsTheLength() {
        Monitor m = new Monitor();
        CHECK.due("first feed, ahead of open", m.feed(0, 0, 0, 0, 0), 20);
        CHECK.due("second feed", m.feed(-1, -1, -1, -1, -1), 40);
        m.open(1, 1, 1, 4);
        CHECK.due("third feed", m.feed(1, 2, 3, 4, 5), 60);
    }

    private static void bytesComeHighestFirst() {
        Monitor m = Line.single();
        // "1;2;3;4;5;6;7;10;11/" and nothing else
        m.feed(0x313B323B, 0x333B343B, 0x353B363B, 0x373B3130, 0x3B31312F);
        CHECK.due("assemble of twenty bytes", m.assemble(0), 9);
        for (int i = 0; i < 9; i++) {
            CHECK.due("WORD " + i + " of twenty bytes", m.peek(0, 0200 + i), i + 1);
        }
        // bytes from 128 on count as such, too: a remark keeps them out
        m.feed(0x2FFFFEFD, 0x80808080, 0x0A350A00, 0, 0);
        m.end(10);
        CHECK.due("assemble with high bytes in a remark", m.assemble(0), 1);
        CHECK.due("WORD behind the remark", m.peek(0, 0200), 5);
    }

    private static void tapeIsFullAt8000() {
        Monitor m = new Monitor();
        for (int i = 1; i <= 400; i++) {
            CHECK.due("feed " + i, m.feed(0, 0, 0, 0, 0), 20 * i);
        }
        CHECK.due("feed of a full tape", m.feed(0, 0, 0, 0, 0), -1);
        CHECK.due("end(8001)", m.end(8001), -1);
        CHECK.due("end(7981)", m.end(7981), 7981);
        CHECK.due("feed with room for 19", m.feed(0, 0, 0, 0, 0), -1);
        CHECK.due("end(7981) again", m.end(7981), 7981);
        CHECK.due("end(7980)", m.end(7980), 7980);
        CHECK.due("feed with room for 20", m.feed(0, 0, 0, 0, 0), 8000);
    }

    private static void endKeepsTheFirst() {
        Monitor m = Line.single();
        m.feed(0x313B323B, 0x333B343B, 0x353B363B, 0x373B3130, 0x3B31310A);
        CHECK.due("end(21)", m.end(21), -1);
        CHECK.due("end(-1)", m.end(-1), -1);
        CHECK.due("end(lowest)", m.end(Integer.MIN_VALUE), -1);
        CHECK.due("end(20)", m.end(20), 20);
        CHECK.due("end(3)", m.end(3), 3);
        CHECK.due("end(4) of 3", m.end(4), -1);
        CHECK.due("assemble of 3 bytes", m.assemble(0), 2);
        CHECK.due("the tape is empty behind assemble", m.end(1), -1);
        Line.type(m, "9");
        CHECK.due("a TEXT with a FAULT", m.assemble(0), -2);
        CHECK.due("the tape is empty behind a FAULT", m.end(1), -1);
        Line.type(m, "7");
        CHECK.due("assemble(1) of one USER", m.assemble(1), -1);
        CHECK.due("assemble(-1)", m.assemble(-1), -1);
        CHECK.due("the tape stays at -1", m.end(1), 1);
    }
}
