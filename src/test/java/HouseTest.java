/** Promises 2, 12, 14, 15, 19, 20 and Terms 2: USERS that run by turns, wait, sleep, are swapped. */
public final class HouseTest {
    private static final Check CHECK = new Check();
    private static final int JMP_SELF = 05200;

    public static void main(String[] args) {
        opening();
        startOnlyTheStopped();
        runCountsBusySteps();
        turnsByQuantum();
        aloneInTheRow();
        swaps();
        swapsGoRound();
        sleepers();
        waitersForKeys();
        waitersForRoom();
        orderInTheRow();
        haltEndsTheTurn();
        whatIsNotAsTold();
        CHECK.finish();
    }

    /** Each USER has JMP . at 0200. */
    private static Monitor spinning(int users, int fields, int quantum, int beat) {
        Monitor m = Line.opened(users, fields, quantum, beat);
        for (int u = 0; u < users; u++) {
            m.poke(u, 0200, JMP_SELF);
        }
        return m;
    }

    private static void startAll(Monitor m) {
        for (int u = 0; u < m.house(0); u++) {
            m.start(u, 0200);
        }
    }

    private static void opening() {
        int[][] bad = {
            {0, 1, 1, 4}, {9, 1, 1, 4}, {-1, 1, 1, 4}, {1, 0, 1, 4}, {1, 8, 1, 4}, {1, 1, 0, 4},
            {1, 1, 65, 4}, {1, 1, 1, 3}, {1, 1, 1, 1001}, {Integer.MIN_VALUE, 1, 1, 4},
            {1, Integer.MAX_VALUE, 1, 4}, {1, 1, -1, 4}, {1, 1, 1, 0}
        };
        Monitor m = new Monitor();
        for (int[] b : bad) {
            CHECK.due("a bad open", m.open(b[0], b[1], b[2], b[3]), -1);
        }
        CHECK.due("house(0) behind bad opens", m.house(0), -1);
        CHECK.due("open at the upper edge", m.open(8, 7, 64, 1000), 1);
        CHECK.due("a second open", m.open(1, 1, 1, 4), -1);
        int[] due = {8, 7, 64, 1000, 0, 0, -1, 0, 0, 1, 0, -1};
        for (int what = 0; what < due.length; what++) {
            CHECK.due("house(" + what + ") at first", m.house(what), due[what]);
        }
        CHECK.due("house(-1)", m.house(-1), -1);
        for (int u = 0; u < 8; u++) {
            for (int what = 0; what < 12; what++) {
                CHECK.due("about(" + u + ", " + what + ") at first", m.about(u, what), 0);
            }
        }
        CHECK.due("about(7, 12)", m.about(7, 12), -1);
        CHECK.due("about(7, -1)", m.about(7, -1), -1);
        CHECK.due("row(0) at first", m.row(0), -1);
        CHECK.due("open at the lower edge", new Monitor().open(1, 1, 1, 4), 1);
    }

    private static void startOnlyTheStopped() {
        Monitor m = spinning(2, 1, 1, 1000);
        CHECK.due("start at -1", m.start(0, -1), -1);
        CHECK.due("start at 4096", m.start(0, 4096), -1);
        CHECK.due("STATES behind bad starts", Line.states(m), "00");
        CHECK.due("start", m.start(0, 4095), 1);
        CHECK.due("STATES behind start", Line.states(m), "20");
        CHECK.due("PC behind start", m.about(0, 0), 4095);
        CHECK.due("start of one that RUNS", m.start(0, 5), 0);
        CHECK.due("PC stays", m.about(0, 0), 4095);
        CHECK.due("start of one that RUNS, badly", m.start(0, 4096), -1);
        CHECK.due("start of the other", m.start(1, 0), 1);
        CHECK.due("STATES behind both", Line.states(m), "21");
        CHECK.due("start of one that is READY", m.start(1, 7), 0);
        CHECK.due("PC of the other", m.about(1, 0), 0);
        CHECK.due("house(6)", m.house(6), 0);
        CHECK.due("house(7)", m.house(7), 1);
        CHECK.due("row(0)", m.row(0), 1);
        CHECK.due("row(1)", m.row(1), -1);
        CHECK.due("row(-1)", m.row(-1), -1);
        CHECK.due("row(8)", m.row(8), -1);
        CHECK.due("row far away", m.row(Integer.MAX_VALUE), -1);
    }

    private static void runCountsBusySteps() {
        Monitor m = Line.opened(1, 1, 1, 4);
        CHECK.due("run(-1)", m.run(-1), -1);
        CHECK.due("run(1001)", m.run(1001), -1);
        CHECK.due("run(0)", m.run(0), 0);
        CHECK.due("run(1000) of none", m.run(1000), 0);
        CHECK.due("STEPS", m.house(4), 1000);
        CHECK.due("TICKS", m.house(5), 250);
        CHECK.due("IDLE", m.house(10), 1000);
        Line.pokeAll(m, 0, 0200, 07000, 07000, 07402);
        m.start(0, 0200);
        CHECK.due("run(10) until HLT", m.run(10), 3);
        CHECK.due("IDLE behind HLT", m.house(10), 1007);
        CHECK.due("STEPS it did", m.about(0, 11), 3);
        CHECK.due("STATE behind HLT", m.about(0, 3), 0);
    }

    private static void turnsByQuantum() {
        Monitor m = spinning(3, 7, 2, 5);
        startAll(m);
        CHECK.due("TICKS to run", m.about(0, 10), 2);
        CHECK.due("TICKS to run of one that is READY", m.about(1, 10), 0);
        m.run(4);
        CHECK.due("TICKS to run ahead of a TICK", m.about(0, 10), 2);
        m.run(1);
        CHECK.due("TICKS to run behind a TICK", m.about(0, 10), 1);
        m.run(4);
        CHECK.due("who RUNS ahead of the second TICK", m.house(6), 0);
        m.run(1);
        CHECK.due("who RUNS behind it", m.house(6), 1);
        CHECK.due("TICKS to run of the one before", m.about(0, 10), 0);
        CHECK.due("TICKS to run of the next", m.about(1, 10), 2);
        CHECK.due("ROW", Line.rowOf(m), "2 0");
        m.run(10);
        CHECK.due("ROW", Line.rowOf(m), "0 1");
        CHECK.due("STATES", Line.states(m), "112");
        m.run(10);
        CHECK.due("ROW", Line.rowOf(m), "1 2");
        CHECK.due("TICKS so far", m.house(5), 6);
        for (int u = 0; u < 3; u++) {
            CHECK.due("STEPS of " + u, m.about(u, 11), 10);
        }
    }

    private static void aloneInTheRow() {
        Monitor m = spinning(1, 1, 1, 4);
        startAll(m);
        CHECK.due("run alone", m.run(100), 100);
        CHECK.due("who RUNS", m.house(6), 0);
        CHECK.due("ROW", m.house(7), 0);
        CHECK.due("SWAPS", m.house(8), 1);
        CHECK.due("TICKS to run", m.about(0, 10), 1);
        // The beat goes by all STEPS, so a turn may begin in the middle of one.
        m = spinning(1, 1, 1, 4);
        m.run(3);
        startAll(m);
        m.run(1);
        CHECK.due("TICKS", m.house(5), 1);
        CHECK.due("TICKS to run again", m.about(0, 10), 1);
    }

    private static void swaps() {
        Monitor m = spinning(3, 2, 1, 4);
        CHECK.due("TURN at first", m.house(9), 1);
        startAll(m);
        CHECK.due("SWAPS behind the first start", m.house(8), 1);
        CHECK.due("FIELDS", fieldsOf(m), "100");
        CHECK.due("TURN", m.house(9), 2);
        m.run(4);
        CHECK.due("FIELDS", fieldsOf(m), "120");
        CHECK.due("TURN goes round", m.house(9), 1);
        m.run(4);
        CHECK.due("FIELDS", fieldsOf(m), "021");
        CHECK.due("TURN", m.house(9), 2);
        m.run(4);
        CHECK.due("FIELDS", fieldsOf(m), "201");
        CHECK.due("SWAPS", m.house(8), 4);
        m.run(4);
        CHECK.due("FIELDS", fieldsOf(m), "210");
        // Who is in a FIELD stays there when stopped, and is not swapped again.
        m = Line.opened(2, 2, 1, 4);
        m.poke(0, 0200, 07402);
        m.start(0, 0200);
        m.run(1);
        CHECK.due("FIELD of a STOPPED one", m.about(0, 8), 1);
        m.start(0, 0200);
        CHECK.due("SWAPS behind a second start", m.house(8), 1);
        CHECK.due("TURN behind a second start", m.house(9), 2);
    }

    private static String fieldsOf(Monitor m) {
        StringBuilder s = new StringBuilder();
        for (int u = 0; u < m.house(0); u++) {
            s.append(m.about(u, 8));
        }
        return s.toString();
    }

    private static void swapsGoRound() {
        Monitor m = spinning(2, 1, 1, 4);
        startAll(m);
        for (int i = 0; i < 16; i++) {
            m.run(1000);
        }
        m.run(4 * 94);
        CHECK.due("SWAPS", m.house(8), 4095);
        m.run(4);
        CHECK.due("SWAPS modulo 4096", m.house(8), 0);
        CHECK.due("TURN of one FIELD", m.house(9), 1);
    }

    private static void sleepers() {
        Monitor m = Line.opened(1, 1, 3, 4);
        // IAC; SLP; IAC; SLP; HLT
        Line.pokeAll(m, 0, 0200, 07001, 06051, 07001, 06051, 07402);
        m.start(0, 0200);
        CHECK.due("run to the TICK", m.run(4), 2);
        CHECK.due("one TICK is over", m.about(0, 3), 2);
        CHECK.due("TICKS to sleep behind it", m.about(0, 4), 0);
        CHECK.due("TICKS to run anew", m.about(0, 10), 3);
        m.run(2);
        CHECK.due("it SLEEPS", m.about(0, 3), 5);
        CHECK.due("TICKS to sleep", m.about(0, 4), 1);
        CHECK.due("TICKS to run of a sleeper", m.about(0, 10), 0);
        CHECK.due("AC of a sleeper", m.about(0, 1), 0);
        CHECK.due("who RUNS", m.house(6), -1);
        CHECK.due("start of a sleeper", m.start(0, 0), 0);
        CHECK.due("key of a sleeper", m.key(0, 1), 1);
        CHECK.due("it SLEEPS on", m.about(0, 3), 5);
        // A TICK of the same STEP counts.
        m = Line.opened(1, 1, 1, 4);
        Line.pokeAll(m, 0, 0200, 07000, 07000, 07001, 06051, 07000);
        m.start(0, 0200);
        CHECK.due("run", m.run(5), 5);
        CHECK.due("it slept for no STEP", m.about(0, 0), 0205);
        m = Line.opened(1, 1, 1, 4);
        Line.pokeAll(m, 0, 0200, 07201, 07004, 07001, 06051, 07402);
        m.start(0, 0200);
        m.run(4);
        CHECK.due("TICKS to sleep behind the first", m.about(0, 4), 2);
        CHECK.due("run", m.run(8), 0);
        CHECK.due("it RUNS", m.about(0, 3), 2);
    }

    private static void waitersForKeys() {
        Monitor m = Line.opened(2, 1, 1, 4);
        Line.pokeAll(m, 0, 0200, 06036, 07402);
        m.poke(1, 0200, JMP_SELF);
        m.start(0, 0200);
        m.run(1);
        CHECK.due("it waits for a key", m.about(0, 3), 3);
        CHECK.due("PC", m.about(0, 0), 0200);
        CHECK.due("STEPS it did", m.about(0, 11), 1);
        CHECK.due("start of one that waits", m.start(0, 0), 0);
        m.start(1, 0200);
        m.key(0, 9);
        CHECK.due("STATES behind the key", Line.states(m), "12");
        CHECK.due("ROW", Line.rowOf(m), "0");
        m.key(0, 10);
        CHECK.due("ROW behind one more key", Line.rowOf(m), "0");
        m.run(3);
        CHECK.due("STATES behind the TICK", Line.states(m), "21");
        CHECK.due("INPUT until KRB is done again", m.about(0, 5), 2);
        CHECK.due("FIELD of who went", m.about(1, 8), 0);
        m.run(1);
        CHECK.due("KRB", m.about(0, 1), 9);
        CHECK.due("INPUT", m.about(0, 5), 1);
    }

    private static void waitersForRoom() {
        Monitor m = Line.opened(1, 1, 64, 100);
        // IAC; TLS; JMP .-2
        Line.pokeAll(m, 0, 0200, 07001, 06046, 05200);
        m.start(0, 0200);
        CHECK.due("run to the full OUTPUT", m.run(99), 50);
        CHECK.due("it waits for room", m.about(0, 3), 4);
        CHECK.due("PC", m.about(0, 0), 0201);
        CHECK.due("AC", m.about(0, 1), 17);
        CHECK.due("OUTPUT", m.about(0, 6), 16);
        CHECK.due("a key is no room", m.key(0, 1), 1);
        CHECK.due("it waits on", m.about(0, 3), 4);
        m.run(1);
        CHECK.due("it RUNS behind the TICK", m.about(0, 3), 2);
        CHECK.due("TICKS to run, for it ran not", m.about(0, 10), 64);
        CHECK.due("OUTPUT", m.about(0, 6), 15);
        m.run(1);
        CHECK.due("OUTPUT again", m.queued(0, 15), 17);
    }

    private static void orderInTheRow() {
        Monitor m = Line.opened(4, 1, 1, 4);
        // 3 falls asleep ahead of 1; one TICK wakes both, by numbers.
        for (int u = 1; u <= 3; u += 2) {
            Line.pokeAll(m, u, 0200, 07001, 06051, 07402);
        }
        m.poke(2, 0200, JMP_SELF);
        m.start(3, 0200);
        m.start(1, 0200);
        m.start(2, 0200);
        CHECK.due("ROW", Line.rowOf(m), "1 2");
        m.run(3);
        CHECK.due("STATES", Line.states(m), "0215");
        m.run(1);
        CHECK.due("STATES behind the TICK", Line.states(m), "0121");
        CHECK.due("ROW behind the TICK", Line.rowOf(m), "1 3");
        m.run(4);
        CHECK.due("who RUNS", m.house(6), 1);
        CHECK.due("ROW", Line.rowOf(m), "3 2");
        // In one TICK who wakes comes ahead of who ran, whatever the numbers.
        m = Line.opened(2, 2, 1, 4);
        m.poke(0, 0200, JMP_SELF);
        Line.pokeAll(m, 1, 0200, 07001, 06051, 07402);
        m.start(1, 0200);
        m.start(0, 0200);
        m.run(4);
        CHECK.due("who woke RUNS", m.house(6), 1);
        CHECK.due("who ran is in the ROW", Line.rowOf(m), "0");
    }

    private static void haltEndsTheTurn() {
        Monitor m = spinning(2, 2, 1, 4);
        m.poke(0, 0200, 07402);
        startAll(m);
        m.run(1);
        CHECK.due("STATES", Line.states(m), "02");
        CHECK.due("TICKS to run of the STOPPED", m.about(0, 10), 0);
        CHECK.due("TICKS to run of the next", m.about(1, 10), 1);
        // HLT on the TICK's own STEP: the TICK takes nothing of the next one's turn.
        m = spinning(2, 2, 1, 4);
        Line.pokeAll(m, 0, 0200, 07000, 07000, 07000, 07402);
        startAll(m);
        m.run(4);
        CHECK.due("STATES", Line.states(m), "02");
        CHECK.due("TICKS to run of the next", m.about(1, 10), 1);
    }

    private static void whatIsNotAsTold() {
        Monitor m = spinning(2, 1, 2, 8);
        startAll(m);
        m.run(11);
        long before = m.digest();
        m.open(1, 1, 1, 4);
        m.start(0, -1);
        m.start(0, 0);
        m.key(0, 256);
        m.key(1, -1);
        m.run(-1);
        m.run(1001);
        m.run(0);
        m.row(0);
        CHECK.due("digest behind calls that do nothing", m.digest(), before);
    }
}
