/** Promises 13, 16, 17 and 18: keys, INPUT, OUTPUT and PAPER. */
public final class LettersTest {
    private static final Check CHECK = new Check();

    public static void main(String[] args) {
        keysComeIn();
        lettersAreLost();
        manyAreLost();
        inputIsARow();
        outputIsARow();
        paperKeepsTheLatest();
        CHECK.finish();
    }

    private static void keysComeIn() {
        Monitor m = Line.opened(2, 1, 1, 4);
        CHECK.due("key 256", m.key(0, 256), -1);
        CHECK.due("key -1", m.key(0, -1), -1);
        CHECK.due("INPUT behind bad keys", m.about(0, 5), 0);
        CHECK.due("key 255", m.key(0, 255), 1);
        CHECK.due("key 0", m.key(0, 0), 1);
        CHECK.due("waiting 0", m.waiting(0, 0), 255);
        CHECK.due("waiting 1", m.waiting(0, 1), 0);
        CHECK.due("waiting 2", m.waiting(0, 2), -1);
        CHECK.due("waiting -1", m.waiting(0, -1), -1);
        CHECK.due("waiting far away", m.waiting(0, Integer.MAX_VALUE), -1);
        CHECK.due("waiting of the other", m.waiting(1, 0), -1);
        CHECK.due("a STOPPED one stays so", m.about(0, 3), 0);
    }

    private static void lettersAreLost() {
        Monitor m = Line.opened(1, 1, 1, 4);
        for (int i = 0; i < 16; i++) {
            CHECK.due("key " + i, m.key(0, i), 1);
        }
        CHECK.due("the 17th key", m.key(0, 99), 0);
        CHECK.due("a bad key then", m.key(0, 256), -1);
        CHECK.due("letters lost", m.about(0, 7), 1);
        CHECK.due("letters in INPUT", m.about(0, 5), 16);
        CHECK.due("the last letter", m.waiting(0, 15), 15);
        CHECK.due("no 17th letter", m.waiting(0, 16), -1);
    }

    /** As many as 512 calls can lose: too few to go round. */
    private static void manyAreLost() {
        Monitor m = Line.opened(1, 1, 1, 4);
        for (int i = 0; i < 16; i++) {
            m.key(0, 1);
        }
        int lost = 0;
        while (m.callsLeft() > 1) {
            lost += 1 - m.key(0, 2);
        }
        CHECK.due("letters lost, in call 512", m.about(0, 7), lost);
        CHECK.due("they are 494", lost, 494);
    }

    private static void inputIsARow() {
        Monitor m = Line.opened(1, 1, 1, 4);
        // KRB; JMP .-1
        Line.pokeAll(m, 0, 0200, 06036, 05200);
        m.start(0, 0200);
        int next = 0;
        for (int round = 0; round < 10; round++) {
            for (int i = 0; i < 5; i++) {
                m.key(0, next + i);
            }
            for (int i = 0; i < 5; i++) {
                CHECK.due("waiting " + i, m.waiting(0, i), next + i);
            }
            // the first STEP is KRB, done or begun anew, then JMP and KRB by turns
            for (int i = 0; i < 5; i++) {
                m.run(1);
                CHECK.due("AC", m.about(0, 1), next + i);
                m.run(1);
            }
            m.run(1);
            CHECK.due("it waits", m.about(0, 3), 3);
            next += 5;
        }
    }

    private static void outputIsARow() {
        Monitor m = Line.opened(1, 1, 1, 4);
        // IAC; TLS; JMP .-2: two letters in six STEPS, three in two TICKS and so on
        Line.pokeAll(m, 0, 0200, 07001, 06046, 05200);
        m.start(0, 0200);
        CHECK.due("queued at first", m.queued(0, 0), -1);
        for (int steps = 1; steps <= 80; steps++) {
            m.run(1);
            int sent = (steps + 1) / 3;
            int printed = steps / 4;
            CHECK.due("letters in OUTPUT, STEP " + steps, m.about(0, 6), sent - printed);
            CHECK.due("letters on PAPER, STEP " + steps, m.about(0, 9), printed);
            CHECK.due("next letter, STEP " + steps, m.queued(0, 0),
                    sent > printed ? printed + 1 : -1);
            CHECK.due("last letter, STEP " + steps, m.queued(0, sent - printed - 1),
                    sent > printed ? sent : -1);
            CHECK.due("none behind it, STEP " + steps, m.queued(0, sent - printed), -1);
        }
        CHECK.due("queued -1", m.queued(0, -1), -1);
        CHECK.due("queued far away", m.queued(0, Integer.MAX_VALUE), -1);
    }

    private static void paperKeepsTheLatest() {
        Monitor m = Line.opened(1, 1, 1, 4);
        Line.pokeAll(m, 0, 0200, 07001, 06046, 05200);
        m.start(0, 0200);
        CHECK.due("letter 0 at first", m.letter(0, 0), -1);
        m.run(1000);
        m.run(1000);
        m.run(48);
        CHECK.due("letters on PAPER", m.about(0, 9), 512);
        CHECK.due("letter 0 of 512", m.letter(0, 0), 1);
        CHECK.due("letter 511 of 512", m.letter(0, 511), 0);
        CHECK.due("letter 512 of 512", m.letter(0, 512), -1);
        CHECK.due("letter -1", m.letter(0, -1), -1);
        m.run(4);
        CHECK.due("letters on PAPER", m.about(0, 9), 513);
        CHECK.due("letter 0 of 513", m.letter(0, 0), -1);
        CHECK.due("letter 1 of 513", m.letter(0, 1), 2);
        CHECK.due("letter 512 of 513", m.letter(0, 512), 1);
        CHECK.due("letter 513 of 513", m.letter(0, 513), -1);
        CHECK.due("letter far away", m.letter(0, Integer.MAX_VALUE), -1);
        CHECK.due("letter far below", m.letter(0, Integer.MIN_VALUE), -1);
    }
}
