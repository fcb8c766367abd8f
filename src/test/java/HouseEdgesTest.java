/** Terms 2, sentence by sentence: the edges of the HOUSE. */
public final class HouseEdgesTest {
    private static final Check CHECK = new Check();
    private static final int NOP = 07000;
    private static final int IAC = 07001;
    private static final int CLA_IAC = 07201;
    private static final int HLT = 07402;
    private static final int KRB = 06036;
    private static final int TLS = 06046;
    private static final int SLP = 06051;
    /** Of 0200, where the programs begin. */
    private static final int JMP_FIRST = 05200;

    public static void main(String[] args) {
        eightUsers();
        states();
        inputHolds16();
        outputHolds16();
        switchesAtFirst();
        files();
        papersAtFirst();
        endOfTheRow();
        fullRow();
        fieldsAndTheirTurn();
        idleSteps();
        multiplesOfBeat();
        oneLetterATick();
        lettersOfAllStates();
        roomMakesReady();
        usersByNumbers();
        sleepersWake();
        longestSleep();
        sleepersPrint();
        ticksToRun();
        runnerComesLast();
        firstOfTheRowRuns();
        onlyIfNoneRuns();
        onlyIfTheRowHasAny();
        behindEachCall();
        inNoField();
        whoIsThereGoes();
        swapsGoRound();
        turnGoesRound();
        CHECK.finish();
    }

    /** All USERS loop at 0200, started by numbers. */
    private static Monitor looping(int users, int fields, int quantum, int beat) {
        Monitor m = Line.opened(users, fields, quantum, beat);
        for (int u = 0; u < users; u++) {
            Line.launch(m, u, JMP_FIRST);
        }
        return m;
    }

    private static void eightUsers() {
        CHECK.says("THE HOUSE has USERS 0 .. (8 at most),");
        for (int users = 1; users <= 8; users++) {
            Monitor m = Line.opened(users, 1, 1, 4);
            CHECK.due("the last of " + users, m.poke(users - 1, 0, 1), 1);
            CHECK.due("one more than " + users, m.poke(users, 0, 1), -1);
            CHECK.due("the last of " + users + " again", m.peek(users - 1, 0), 1);
            CHECK.due("house(0)", m.house(0), users);
        }
        CHECK.due("nine", new Monitor().open(9, 1, 1, 4), -1);
    }

    private static void states() {
        CHECK.says("each with a STATE: 0 STOPPED (at first), 1 READY, 2 it RUNS, 3 waits for a key, 4 waits for room, "
                + "5 SLEEPS;");
        Monitor m = Line.opened(6, 1, 64, 1000);
        CHECK.due("STATES at first", Line.states(m), "000000");
        Line.launch(m, 3, KRB);
        Line.launch(m, 4, TLS, JMP_FIRST);
        Line.launch(m, 5, IAC, SLP);
        Line.launch(m, 2, JMP_FIRST);
        Line.launch(m, 1, JMP_FIRST);
        CHECK.due("STATES behind the starts", Line.states(m), "011211");
        m.run(1 + 33 + 2);
        CHECK.due("STATES then", Line.states(m), "012345");
    }

    private static void inputHolds16() {
        CHECK.says("INPUT and OUTPUT, rows of letters (0 to 255), 16 at most;");
        Monitor m = Line.single();
        for (int i = 0; i < 16; i++) {
            CHECK.due("key " + i, m.key(0, 255 - i * 17), 1);
        }
        CHECK.due("key 16", m.key(0, 3), 0);
        CHECK.due("INPUT", m.about(0, 5), 16);
        for (int i = 0; i < 16; i++) {
            CHECK.due("letter " + i, m.waiting(0, i), 255 - i * 17);
        }
        CHECK.due("letter 16", m.waiting(0, 16), -1);
        CHECK.due("letter 256", m.key(0, 256), -1);
        CHECK.due("letter -1", m.key(0, -1), -1);
    }

    private static void outputHolds16() {
        CHECK.says("INPUT and OUTPUT, rows of letters (0 to 255), 16 at most;");
        Monitor m = Line.single();
        // CMA; TLS; IAC; JMP .-2: letters 255, 0, 1 and so on
        Line.launch(m, 0, 07040, TLS, IAC, 05201);
        m.run(100);
        CHECK.due("OUTPUT", m.about(0, 6), 16);
        for (int i = 0; i < 16; i++) {
            CHECK.due("letter " + i, m.queued(0, i), i + 255 & 255);
        }
        CHECK.due("letter 16", m.queued(0, 16), -1);
        CHECK.due("it waits", m.about(0, 3), 4);
    }

    private static void switchesAtFirst() {
        CHECK.says("SWITCHES (a word, 0 at first);");
        int[] words = {-1, 0, 1, 4095};
        for (int v : words) {
            Monitor m = Line.opened(2, 2, 64, 1000);
            if (v >= 0) {
                m.switches(1, v);
            }
            // CLA OSR; HLT
            Line.launch(m, 0, 07604, HLT);
            Line.launch(m, 1, 07604, HLT);
            m.run(4);
            CHECK.due("SWITCHES of 1", m.about(1, 1), Math.max(v, 0));
            CHECK.due("SWITCHES of 0", m.about(0, 1), 0);
        }
    }

    private static void files() {
        CHECK.says("a FILE of 32 BLOCKS of 128 WORDS (0 at first);");
        Monitor m = Line.opened(2, 1, 1, 4);
        for (int b = 0; b < 32; b++) {
            CHECK.due("first WORD of " + b, m.block(1, b, 0), 0);
            CHECK.due("last WORD of " + b, m.block(1, b, 127), 0);
            CHECK.due("store to the first", m.store(1, b, 0, b * 100 + 1), 1);
            CHECK.due("store to the last", m.store(1, b, 127, b * 100 + 2), 1);
        }
        for (int b = 0; b < 32; b++) {
            CHECK.due("first WORD of " + b + " then", m.block(1, b, 0), b * 100 + 1);
            CHECK.due("last WORD of " + b + " then", m.block(1, b, 127), b * 100 + 2);
            CHECK.due("FILE of the other USER", m.block(0, b, 0), 0);
        }
        CHECK.due("BLOCK 32", m.block(1, 32, 0), -1);
        CHECK.due("WORD 128", m.block(1, 31, 128), -1);
    }

    private static void papersAtFirst() {
        CHECK.says("a PAPER.");
        Monitor m = Line.opened(8, 1, 1, 4);
        m.run(1000);
        for (int u = 0; u < 8; u++) {
            CHECK.due("letters on PAPER", m.about(u, 9), 0);
            CHECK.due("letter 0", m.letter(u, 0), -1);
        }
    }

    private static void endOfTheRow() {
        CHECK.says("Who becomes READY comes to the end of the ROW.");
        Monitor m = Line.opened(5, 5, 64, 1000);
        int[] order = {4, 1, 3, 0, 2};
        String[] rows = {"", "1", "1 3", "1 3 0", "1 3 0 2"};
        for (int i = 0; i < order.length; i++) {
            Line.launch(m, order[i], KRB, JMP_FIRST);
            CHECK.due("ROW behind start " + i, Line.rowOf(m), rows[i]);
        }
        m.run(5);
        CHECK.due("ROW when all wait", Line.rowOf(m), "");
        m.key(0, 1);
        m.key(3, 1);
        m.key(2, 1);
        m.key(4, 1);
        CHECK.due("who RUNS by the first key", m.house(6), 0);
        CHECK.due("ROW behind the keys", Line.rowOf(m), "3 2 4");
        m.key(3, 1);
        CHECK.due("ROW behind a second key", Line.rowOf(m), "3 2 4");
    }

    /** In a TICK all eight are in the ROW at once, and none is lost. */
    private static void fullRow() {
        CHECK.says("Who becomes READY comes to the end of the ROW.");
        Monitor m = looping(8, 7, 1, 4);
        for (int turn = 0; turn < 9; turn++) {
            StringBuilder due = new StringBuilder();
            for (int i = 1; i < 8; i++) {
                due.append(i == 1 ? "" : " ").append((turn + i) % 8);
            }
            CHECK.due("ROW of turn " + turn, Line.rowOf(m), due.toString());
            CHECK.due("who RUNS in turn " + turn, m.house(6), turn % 8);
            CHECK.due("how many are in the ROW", m.house(7), 7);
            m.run(4);
        }
    }

    private static void fieldsAndTheirTurn() {
        CHECK.says("There are FIELDS 1, 2, .. (7 at most), in each the memory of one USER or none; "
                + "their TURN begins at 1.");
        for (int fields = 1; fields <= 7; fields++) {
            Monitor m = Line.opened(8, fields, 1, 4);
            CHECK.due("TURN at first", m.house(9), 1);
            CHECK.due("FIELDS of the USERS at first", Line.ofAll(m, 8), "00000000");
            for (int u = 0; u < fields; u++) {
                Line.launch(m, u, HLT);
                m.run(1);
            }
            CHECK.due("FIELDS of the USERS", Line.ofAll(m, 8), "1234567".substring(0, fields)
                    + "00000000".substring(fields));
            Line.launch(m, 7, HLT);
            CHECK.due("FIELD of one more", m.about(7, 8), 1);
            CHECK.due("FIELD of the first", m.about(0, 8), 0);
        }
        CHECK.due("eight FIELDS", new Monitor().open(8, 8, 1, 4), -1);
    }

    private static void idleSteps() {
        CHECK.says("A STEP: the USER that RUNS does an INSTRUCTION; if none RUNS it is IDLE.");
        Monitor m = Line.opened(2, 1, 1, 4);
        CHECK.due("run of none", m.run(3), 0);
        CHECK.due("IDLE", m.house(10), 3);
        Line.launch(m, 1, HLT);
        CHECK.due("run of HLT", m.run(1), 1);
        CHECK.due("IDLE behind HLT", m.house(10), 3);
        CHECK.due("run behind HLT", m.run(1), 0);
        CHECK.due("IDLE behind that", m.house(10), 4);
        CHECK.due("STEPS", m.house(4), 5);
        CHECK.due("STEPS it did", m.about(1, 11), 1);
        CHECK.due("STEPS of the other", m.about(0, 11), 0);
        // an INSTRUCTION that only waits is one, too
        m = Line.single();
        Line.launch(m, 0, KRB);
        CHECK.due("run of KRB", m.run(2), 1);
        m.key(0, 5);
        CHECK.due("run of KRB again", m.run(1), 1);
        CHECK.due("STEPS it did by KRB", m.about(0, 11), 2);
    }

    private static void multiplesOfBeat() {
        CHECK.says("When the STEPS so far are a multiple of BEAT a TICK follows:");
        int[] beats = {4, 5, 999, 1000};
        for (int beat : beats) {
            Monitor m = looping(1, 1, 64, beat);
            for (int i = 1; i <= 5; i++) {
                m.run(beat - 1);
                CHECK.due("TICKS ahead of " + i + " times " + beat, m.house(5), i - 1);
                CHECK.due("TICKS to run ahead of it", m.about(0, 10), 64 - (i - 1));
                m.run(1);
                CHECK.due("TICKS at " + i + " times " + beat, m.house(5), i);
                CHECK.due("TICKS to run at it", m.about(0, 10), 64 - i);
            }
        }
        // IDLE STEPS count
        Monitor m = Line.opened(1, 1, 3, 10);
        m.run(9);
        Line.launch(m, 0, JMP_FIRST);
        m.run(1);
        CHECK.due("TICKS at 10 STEPS of which 9 were IDLE", m.house(5), 1);
        CHECK.due("TICKS to run", m.about(0, 10), 2);
        // many in one call
        m = Line.opened(1, 1, 3, 4);
        m.run(1000);
        CHECK.due("TICKS at 1000 STEPS", m.house(5), 250);
        m = Line.opened(1, 1, 3, 7);
        m.run(1000);
        CHECK.due("TICKS of 7 STEPS at 1000", m.house(5), 142);
        m.run(1);
        CHECK.due("TICKS of 7 STEPS at 1001", m.house(5), 143);
    }

    private static void oneLetterATick() {
        CHECK.says("if OUTPUT has letters, the first one goes to the end of its PAPER,");
        Monitor m = Line.opened(1, 1, 64, 100);
        // three letters: 1, 2, 3
        Line.launch(m, 0, IAC, TLS, IAC, TLS, IAC, TLS, HLT);
        m.run(99);
        CHECK.due("OUTPUT ahead of a TICK", m.about(0, 6), 3);
        CHECK.due("PAPER ahead of a TICK", m.about(0, 9), 0);
        for (int i = 1; i <= 4; i++) {
            m.run(i == 1 ? 1 : 100);
            int printed = Math.min(i, 3);
            CHECK.due("OUTPUT behind TICK " + i, m.about(0, 6), 3 - printed);
            CHECK.due("next letter behind TICK " + i, m.queued(0, 0), printed < 3 ? printed + 1 : -1);
            CHECK.due("PAPER behind TICK " + i, m.about(0, 9), printed);
            CHECK.due("last letter behind TICK " + i, m.letter(0, printed - 1), printed);
            CHECK.due("none behind it", m.letter(0, printed), -1);
        }
    }

    /** A TICK takes letters whatever its USER does: RUNS, READY, waits for a key, SLEEPS. */
    private static void lettersOfAllStates() {
        CHECK.says("if OUTPUT has letters, the first one goes to the end of its PAPER,");
        Monitor m = Line.opened(4, 4, 64, 100);
        Line.launch(m, 0, TLS, TLS, KRB);
        Line.launch(m, 1, TLS, IAC, TLS, SLP);
        Line.launch(m, 2, TLS, TLS, 05202);
        Line.launch(m, 3, TLS, HLT);
        m.run(99);
        CHECK.due("STATES", Line.states(m), "3521");
        CHECK.due("OUTPUT", Line.ofAll(m, 6), "2220");
        m.run(1);
        CHECK.due("OUTPUT behind the TICK", Line.ofAll(m, 6), "1110");
        CHECK.due("PAPER behind the TICK", Line.ofAll(m, 9), "1110");
    }

    private static void roomMakesReady() {
        CHECK.says("and, if it waits for room, it becomes READY;");
        Monitor m = Line.opened(2, 1, 64, 100);
        Line.launch(m, 0, TLS, JMP_FIRST);
        m.run(98);
        Line.launch(m, 1, JMP_FIRST);
        m.run(1);
        CHECK.due("STATES ahead of the TICK", Line.states(m), "42");
        m.run(1);
        CHECK.due("STATES behind the TICK", Line.states(m), "12");
        CHECK.due("ROW", Line.rowOf(m), "0");
        CHECK.due("OUTPUT", m.about(0, 6), 15);
        CHECK.due("PC", m.about(0, 0), 0200);
        m.run(100);
        CHECK.due("ROW behind one more TICK", Line.rowOf(m), "0");
        CHECK.due("OUTPUT behind one more TICK", m.about(0, 6), 14);
        // TLS meets a full OUTPUT in the STEP of the TICK itself: there is room at once
        m = Line.opened(1, 1, 64, 33);
        Line.launch(m, 0, TLS, JMP_FIRST);
        m.run(33);
        CHECK.due("STATE behind the TICK of the same STEP", m.about(0, 3), 2);
        CHECK.due("OUTPUT behind the TICK of the same STEP", m.about(0, 6), 15);
        m.run(1);
        CHECK.due("OUTPUT behind TLS again", m.about(0, 6), 16);
    }

    private static void usersByNumbers() {
        CHECK.says("USER by USER, by numbers:");
        // 3 waits for room, 1 and 2 SLEEP (2 ahead of 1), all until the same TICK; 0 loops
        Monitor m = Line.opened(5, 1, 64, 100);
        Line.launch(m, 3, TLS, JMP_FIRST);
        m.run(33);
        Line.launch(m, 2, CLA_IAC, SLP, JMP_FIRST);
        m.run(2);
        Line.launch(m, 1, CLA_IAC, SLP, JMP_FIRST);
        m.run(2);
        Line.launch(m, 0, JMP_FIRST);
        CHECK.due("STATES ahead of the TICK", Line.states(m), "25540");
        m.run(63);
        CHECK.due("STATES behind the TICK", Line.states(m), "21110");
        CHECK.due("ROW behind the TICK", Line.rowOf(m), "1 2 3");
    }

    private static void sleepersWake() {
        CHECK.says("if it SLEEPS, it has one TICK less to sleep, and at 0 becomes READY.");
        for (int ticks = 1; ticks <= 3; ticks++) {
            Monitor m = Line.opened(1, 1, 1, 10);
            Line.pokeAll(m, 0, 0100, ticks);
            // TAD 0100; SLP; JMP .
            Line.launch(m, 0, 01100, SLP, 05202);
            m.run(9);
            for (int over = 0; over < ticks; over++) {
                CHECK.due("STATE behind TICK " + over, m.about(0, 3), 5);
                CHECK.due("TICKS to sleep behind TICK " + over, m.about(0, 4), ticks - over);
                m.run(over == 0 ? 1 : 10);
            }
            CHECK.due("STATE at 0", m.about(0, 3), 2);
            CHECK.due("TICKS to sleep at 0", m.about(0, 4), 0);
            CHECK.due("TICKS to run of who woke", m.about(0, 10), 1);
            CHECK.due("TICKS so far", m.house(5), ticks);
        }
        // the TICK of SLP's own STEP is the first one
        Monitor m = Line.opened(1, 1, 64, 4);
        Line.launch(m, 0, NOP, NOP, CLA_IAC, SLP, JMP_FIRST);
        m.run(4);
        CHECK.due("STATE behind SLP and its TICK", m.about(0, 3), 2);
        CHECK.due("run goes on", m.run(1), 1);
    }

    private static void longestSleep() {
        CHECK.says("if it SLEEPS, it has one TICK less to sleep, and at 0 becomes READY.");
        Monitor m = Line.opened(1, 1, 1, 4);
        // CLA CMA; SLP; JMP .
        Line.launch(m, 0, 07240, SLP, 05202);
        Line.runLong(m, 4095 * 4 - 1);
        CHECK.due("STATE ahead of TICK 4095", m.about(0, 3), 5);
        CHECK.due("TICKS to sleep ahead of it", m.about(0, 4), 1);
        m.run(1);
        CHECK.due("STATE behind TICK 4095", m.about(0, 3), 2);
        CHECK.due("STEPS that were IDLE", m.house(10), 4095 * 4 - 2);
    }

    private static void sleepersPrint() {
        CHECK.says("if OUTPUT has letters, the first one goes to the end of its PAPER, and, if it waits for room, "
                + "it becomes READY; if it SLEEPS, it has one TICK less to sleep, and at 0 becomes READY.");
        Monitor m = Line.opened(1, 1, 1, 10);
        // TLS; TLS; TLS; CLA IAC RAL; SLP; JMP .
        Line.launch(m, 0, TLS, TLS, TLS, 07205, SLP, 05205);
        m.run(10);
        CHECK.due("STATE behind one TICK", m.about(0, 3), 5);
        CHECK.due("OUTPUT behind one TICK", m.about(0, 6), 2);
        m.run(10);
        CHECK.due("STATE behind two TICKS", m.about(0, 3), 2);
        CHECK.due("OUTPUT behind two TICKS", m.about(0, 6), 1);
        CHECK.due("it is there but once", m.house(7), 0);
    }

    private static void ticksToRun() {
        CHECK.says("Then, if one RUNS, it has one TICK less to run; at 0 it becomes READY.");
        int[] quanta = {1, 2, 64};
        for (int quantum : quanta) {
            Monitor m = looping(2, 2, quantum, 4);
            CHECK.due("TICKS to run at first", m.about(0, 10), quantum);
            m.run(4 * quantum - 1);
            CHECK.due("who RUNS ahead of the last TICK", m.house(6), 0);
            CHECK.due("TICKS to run ahead of it", m.about(0, 10), 1);
            m.run(1);
            CHECK.due("STATES behind it", Line.states(m), "12");
            CHECK.due("TICKS to run behind it", m.about(0, 10), 0);
            CHECK.due("TICKS to run of the next one", m.about(1, 10), quantum);
        }
        // who RUNS no more at the TICK is not meant, and who RUNS only behind it neither
        Monitor m = Line.opened(2, 2, 1, 4);
        Line.launch(m, 0, NOP, NOP, NOP, HLT);
        Line.launch(m, 1, JMP_FIRST);
        m.run(4);
        CHECK.due("STATES behind HLT and a TICK", Line.states(m), "02");
        CHECK.due("TICKS to run of the next one", m.about(1, 10), 1);
    }

    private static void runnerComesLast() {
        CHECK.says("Then, if one RUNS, it has one TICK less to run; at 0 it becomes READY.");
        // 2 wakes in the TICK that ends 0's turn: 2 comes ahead of 0, by the word 'Then'
        Monitor m = Line.opened(3, 3, 1, 4);
        Line.launch(m, 2, CLA_IAC, SLP, 05202);
        m.run(2);
        Line.launch(m, 0, JMP_FIRST);
        Line.launch(m, 1, JMP_FIRST);
        CHECK.due("ROW ahead of the TICK", Line.rowOf(m), "1");
        m.run(2);
        CHECK.due("who RUNS behind the TICK", m.house(6), 1);
        CHECK.due("ROW behind the TICK", Line.rowOf(m), "2 0");
    }

    private static void firstOfTheRowRuns() {
        CHECK.says("Behind each STEP (with its TICK) and each call: if none RUNS, and the ROW has any, "
                + "the first one leaves it and RUNS; it has QUANTUM TICKS to run.");
        Monitor m = Line.opened(3, 3, 7, 1000);
        Line.launch(m, 2, HLT);
        CHECK.due("who RUNS behind the call", m.house(6), 2);
        CHECK.due("ROW behind the call", m.house(7), 0);
        CHECK.due("TICKS to run", m.about(2, 10), 7);
        Line.launch(m, 1, HLT);
        Line.launch(m, 0, HLT);
        m.run(1);
        CHECK.due("STATES behind a STEP", Line.states(m), "120");
        CHECK.due("TICKS to run of each", Line.ofAll(m, 10), "070");
        m.run(1);
        CHECK.due("STATES behind two STEPS", Line.states(m), "200");
        m.run(1);
        CHECK.due("STATES behind three STEPS", Line.states(m), "000");
        CHECK.due("who RUNS then", m.house(6), -1);
        // alone, it comes back at once with all its TICKS
        m = looping(1, 1, 1, 4);
        m.run(4);
        CHECK.due("STATE of one alone", m.about(0, 3), 2);
        CHECK.due("TICKS to run of one alone", m.about(0, 10), 1);
        CHECK.due("run alone", m.run(100), 100);
    }

    private static void onlyIfNoneRuns() {
        CHECK.says("if none RUNS, and the ROW has any, the first one leaves it and RUNS;");
        Monitor m = looping(2, 1, 64, 1000);
        m.run(500);
        CHECK.due("who RUNS", m.house(6), 0);
        CHECK.due("ROW", Line.rowOf(m), "1");
        m.key(1, 5);
        m.switches(1, 5);
        m.poke(1, 0, 5);
        CHECK.due("who RUNS behind calls", m.house(6), 0);
        CHECK.due("SWAPS", m.house(8), 1);
    }

    /** Behind a TICK that had all eight in the ROW, all stop: who was in it is not taken for one that is. */
    private static void onlyIfTheRowHasAny() {
        CHECK.says("if none RUNS, and the ROW has any, the first one leaves it and RUNS;");
        Monitor m = looping(8, 7, 1, 4);
        m.run(40);
        for (int u = 0; u < 8; u++) {
            m.poke(u, 0200, HLT);
        }
        CHECK.due("run of eight that stop", m.run(20), 8);
        CHECK.due("STATES then", Line.states(m), "00000000");
        CHECK.due("who RUNS then", m.house(6), -1);
        CHECK.due("ROW then", m.house(7), 0);
        CHECK.due("row(0) then", m.row(0), -1);
        m.key(3, 1);
        m.poke(3, 0200, JMP_FIRST);
        CHECK.due("who RUNS behind calls that make none READY", m.house(6), -1);
        CHECK.due("run then", m.run(5), 0);
        m.start(3, 0200);
        CHECK.due("who RUNS behind a start", m.house(6), 3);
        CHECK.due("ROW behind a start", m.house(7), 0);
    }

    private static void behindEachCall() {
        CHECK.says("Behind each STEP (with its TICK) and each call:");
        Monitor m = Line.opened(2, 2, 5, 1000);
        Line.launch(m, 1, KRB, JMP_FIRST);
        m.run(1);
        CHECK.due("STATE ahead of the key", m.about(1, 3), 3);
        m.key(1, 0);
        CHECK.due("STATE behind the key", m.about(1, 3), 2);
        CHECK.due("TICKS to run behind the key", m.about(1, 10), 5);
        CHECK.due("ROW behind the key", m.house(7), 0);
    }

    private static void inNoField() {
        CHECK.says("If it is in no FIELD it comes into the FIELD whose TURN it is (who is there is in none then);");
        Monitor m = Line.opened(2, 3, 1, 4);
        Line.launch(m, 1, HLT);
        m.run(1);
        CHECK.due("FIELDS behind HLT", Line.ofAll(m, 8), "01");
        for (int i = 0; i < 3; i++) {
            m.start(1, 0200);
            m.run(1);
        }
        CHECK.due("FIELD of who was in one", m.about(1, 8), 1);
        CHECK.due("SWAPS by it", m.house(8), 1);
        CHECK.due("TURN by it", m.house(9), 2);
        // READY alone brings none into a FIELD
        m = looping(3, 2, 1, 4);
        CHECK.due("FIELDS behind the starts", Line.ofAll(m, 8), "100");
        m.run(4);
        CHECK.due("FIELDS behind one turn", Line.ofAll(m, 8), "120");
    }

    private static void whoIsThereGoes() {
        CHECK.says("(who is there is in none then);");
        Monitor m = looping(3, 2, 1, 4);
        String[] due = {"100", "120", "021", "201", "210", "012", "102", "120"};
        for (int turn = 0; turn < due.length; turn++) {
            CHECK.due("FIELDS in turn " + turn, Line.ofAll(m, 8), due[turn]);
            CHECK.due("SWAPS in turn " + turn, m.house(8), turn + 1);
            m.run(4);
        }
        // the one in the FIELD may be STOPPED, wait or SLEEP
        m = Line.opened(3, 1, 1, 1000);
        Line.launch(m, 0, KRB);
        Line.launch(m, 1, IAC, SLP);
        Line.launch(m, 2, JMP_FIRST);
        m.run(1);
        CHECK.due("FIELDS when 0 waits", Line.ofAll(m, 8), "010");
        m.run(2);
        CHECK.due("FIELDS when 1 SLEEPS", Line.ofAll(m, 8), "001");
    }

    private static void swapsGoRound() {
        CHECK.says("SWAPS are 1 more (modulo 4096);");
        Monitor m = looping(2, 1, 1, 4);
        CHECK.due("SWAPS behind the first call", m.house(8), 1);
        Line.runLong(m, 4 * 4094);
        CHECK.due("SWAPS", m.house(8), 4095);
        m.run(4);
        CHECK.due("SWAPS behind one more", m.house(8), 0);
        m.run(4);
        CHECK.due("SWAPS behind two more", m.house(8), 1);
    }

    private static void turnGoesRound() {
        CHECK.says("the TURN is the next FIELD's (1 behind the last).");
        for (int fields = 1; fields <= 7; fields++) {
            Monitor m = looping(8, fields, 1, 4);
            for (int swaps = 1; swaps <= 20; swaps++) {
                CHECK.due("TURN of " + fields + " behind SWAP " + swaps, m.house(9), swaps % fields + 1);
                CHECK.due("FIELD of who RUNS", m.about(m.house(6), 8), (swaps - 1) % fields + 1);
                m.run(4);
            }
        }
    }
}
