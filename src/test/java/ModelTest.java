import java.util.Random;

/** All promises: runs of calls by chance (always the same ones), against the model's answers. */
public final class ModelTest {
    private static final Check CHECK = new Check();
    private static final int RUNS = 4000;
    /** Calls that one turn of someCall(), and the look at a run's end, can make. */
    private static final int FOR_A_TURN_AND_THE_END = 240;
    private static final String[] PARTS = {
        "A", "B", "C", "AB", "B1", "LOOP", "LONGER", "TOOLONG", "I", "I", "TAD", "TAD", "DCA", "JMP",
        "JMS", "AND", "ISZ", "TADX", "CLA", "CLL", "RTL", "HLT", "KRB", "TLS", "SLP", "WHO", "0", "7",
        "17", "177", "200", "377", "400", "1000", "7777", "12345", "8", "1A", ".", ".", "(", ")", "+",
        "-", "*", "=", ",", ";", "/", "\n", "\n", " ", " ", " ", " ", "\t", "", "", "#"
    };
    private static final String[] NAMES = {"A", "B", "C", "D", "E1", "F22", "G", "H", "LOOP", "LONGER"};
    private static final String[] KNOWN = {"CLA", "CLL", "CMA", "IAC", "RAL", "HLT", "TLS", "KRB", "WHO"};
    private static final String[] MEMORY = {"AND", "TAD", "ISZ", "DCA", "JMS", "JMP"};
    private static final int[] DEVICES = {
        06031, 06036, 06036, 06041, 06046, 06046, 06046, 06051, 06052, 06053, 06054
    };

    private static Random random;
    private static Monitor real;
    private static Model model;

    public static void main(String[] args) {
        for (int run = 0; run < RUNS && !CHECK.hasWrong(); run++) {
            random = new Random(run);
            real = new Monitor();
            model = new Model();
            if (chance(10)) {
                someCall(run, 0);
            }
            open();
            for (int call = 1; real.callsLeft() > FOR_A_TURN_AND_THE_END && !CHECK.hasWrong(); call++) {
                someCall(run, call);
            }
            every("run " + run + ", at its end: ");
            CHECK.due("run " + run + ": digest", real.digest(), model.digest());
        }
        CHECK.finish();
    }

    private static boolean chance(int percent) {
        return random.nextInt(100) < percent;
    }

    private static void open() {
        int users = 1 + random.nextInt(8);
        int fields = 1 + random.nextInt(7);
        int quantum = 1 + random.nextInt(chance(70) ? 3 : 64);
        int beat = 4 + random.nextInt(chance(70) ? 10 : 997);
        CHECK.due("open", real.open(users, fields, quantum, beat), model.open(users, fields, quantum, beat));
    }

    /** Mostly one from 0 to n - 1. */
    private static int upTo(int n) {
        return chance(97) ? random.nextInt(n) : chance(50) ? n : random.nextInt();
    }

    private static int user() {
        return upTo(Math.max(1, model.house(0)));
    }

    private static void someCall(int run, int call) {
        String at = "run " + run + ", call " + call + ": ";
        int u = user();
        switch (random.nextInt(22)) {
            case 0: case 1: text(at, u); break;
            case 2: case 3: program(at, u); break;
            case 4: {
                int a = upTo(4096);
                int v = upTo(4096);
                CHECK.due(at + "poke", real.poke(u, a, v), model.poke(u, a, v));
                break;
            }
            case 5: {
                int b = upTo(32);
                int i = upTo(128);
                int v = upTo(4096);
                CHECK.due(at + "store", real.store(u, b, i, v), model.store(u, b, i, v));
                CHECK.due(at + "block", real.block(u, b, i), model.block(u, b, i));
                break;
            }
            case 6: {
                int v = upTo(4096);
                CHECK.due(at + "switches", real.switches(u, v), model.switches(u, v));
                break;
            }
            case 7: case 8: case 9: {
                int a = chance(80) ? 0200 : upTo(4096);
                CHECK.due(at + "start", real.start(u, a), model.start(u, a));
                break;
            }
            case 10: case 11: case 12: keys(at, u); break;
            case 13: case 14: case 15: case 16: case 17: {
                int n = chance(60) ? random.nextInt(30) : upTo(1001);
                CHECK.due(at + "run(" + n + ")", real.run(n), model.run(n));
                break;
            }
            case 18: open(); break;
            case 19: tape(at); break;
            default: look(at, u); break;
        }
        some(at);
    }

    private static void keys(String at, int u) {
        for (int i = random.nextInt(20); i >= 0; i--) {
            int c = upTo(256);
            CHECK.due(at + "key", real.key(u, c), model.key(u, c));
        }
    }

    private static void tape(String at) {
        int a = random.nextInt();
        CHECK.due(at + "feed", real.feed(a, 1, 2, a, 3), model.feed(a, 1, 2, a, 3));
        int n = random.nextInt(30) - 3;
        CHECK.due(at + "end", real.end(n), model.end(n));
    }

    private static void look(String at, int u) {
        int i = upTo(20) - 1;
        CHECK.due(at + "waiting", real.waiting(u, i), model.waiting(u, i));
        CHECK.due(at + "queued", real.queued(u, i), model.queued(u, i));
        int printed = Math.max(0, model.about(u, 9));
        int near = chance(50) ? printed - 512 + random.nextInt(5) - 2 : upTo(printed + 2) - 1;
        CHECK.due(at + "letter", real.letter(u, near), model.letter(u, near));
        int a = upTo(4096);
        CHECK.due(at + "peek", real.peek(u, a), model.peek(u, a));
        int row = upTo(9) - 1;
        CHECK.due(at + "row", real.row(row), model.row(row));
        if (chance(10)) {
            CHECK.due(at + "digest", real.digest(), model.digest());
        }
    }

    private static void some(String at) {
        int what = random.nextInt(13) - 1;
        CHECK.due(at + "house(" + what + ")", real.house(what), model.house(what));
        for (int i = 0; i < 3; i++) {
            int u = user();
            int which = random.nextInt(14) - 1;
            CHECK.due(at + "about(" + u + ", " + which + ")", real.about(u, which), model.about(u, which));
        }
    }

    private static void every(String at) {
        for (int what = -1; what <= 11; what++) {
            CHECK.due(at + "house(" + what + ")", real.house(what), model.house(what));
        }
        for (int u = 0; u < model.house(0); u++) {
            for (int what = 0; what < 12; what++) {
                CHECK.due(at + "about(" + u + ", " + what + ")", real.about(u, what), model.about(u, what));
            }
        }
    }

    /** INSTRUCTIONS from 0200 on that mostly stay on their PAGE, and use the line a lot. */
    private static void program(String at, int u) {
        int length = 5 + random.nextInt(60);
        for (int i = 0; i < length; i++) {
            int a = 0200 + i;
            int w = random.nextInt(4096);
            int kind = random.nextInt(10);
            if (kind < 3) {
                w = DEVICES[random.nextInt(DEVICES.length)];
            } else if (kind < 5) {
                w = 07000 + random.nextInt(0400);
            } else if (kind < 6) {
                w = 07400 + random.nextInt(0400) & ~(chance(80) ? 02 : 0);
            } else if (kind < 7) {
                w = 05200 + random.nextInt(length);
            } else if (kind < 8) {
                w = chance(50) ? 00010 : 07201;
            } else if (kind < 9) {
                w = random.nextInt(6) * 01000 + random.nextInt(0400);
            }
            real.poke(u, a, w);
            model.poke(u, a, w);
        }
        real.poke(u, 010, 017);
        model.poke(u, 010, 017);
        CHECK.due(at + "start", real.start(u, 0200), model.start(u, 0200));
    }

    private static void text(String at, int u) {
        int before = model.end(0);
        CHECK.due(at + "end(0)", real.end(0), before);
        String text = chance(30) ? soup() : chance(5) ? noise() : statements();
        for (int from = 0; from < text.length(); from += 20) {
            int[] n = Line.packed(text, from);
            CHECK.due(at + "feed", real.feed(n[0], n[1], n[2], n[3], n[4]), model.feed(n));
        }
        CHECK.due(at + "end", real.end(text.length()), model.end(text.length()));
        String call = at + "assemble '" + text + "'";
        CHECK.due(call, real.assemble(u), model.assemble(u));
        for (int what = -1; what <= 2; what++) {
            CHECK.due(call + ", fault(" + what + ")", real.fault(what), model.fault(what));
        }
        if (chance(20)) {
            CHECK.due(call + ", digest", real.digest(), model.digest());
        }
    }

    private static String soup() {
        StringBuilder s = new StringBuilder();
        for (int i = 1 + random.nextInt(8); i > 0; i--) {
            s.append(one(PARTS));
        }
        return s.toString();
    }

    private static String noise() {
        StringBuilder s = new StringBuilder();
        for (int i = random.nextInt(60); i > 0; i--) {
            s.append((char) random.nextInt(256));
        }
        return s.toString();
    }

    private static String one(String[] of) {
        return of[random.nextInt(of.length)];
    }

    private static String statements() {
        StringBuilder s = new StringBuilder();
        for (int i = 1 + random.nextInt(20); i > 0; i--) {
            s.append(statement()).append(chance(50) ? ";" : chance(90) ? "\n" : "/ no; 9\n");
        }
        if (chance(10)) {
            s.setCharAt(random.nextInt(s.length()), one(PARTS).concat("!").charAt(0));
        }
        return s.toString();
    }

    private static String statement() {
        StringBuilder s = new StringBuilder(blanks());
        if (chance(12)) {
            s.append(one(NAMES)).append(',').append(blanks());
        }
        int kind = random.nextInt(20);
        if (kind == 0) {
            s.append('*').append(blanks()).append(expression());
        } else if (kind == 1) {
            s.append('*').append(Integer.toOctalString(0200 * (1 + random.nextInt(4)) + random.nextInt(0170)));
        } else if (kind < 4) {
            s.append(one(NAMES)).append('=').append(blanks()).append(expression());
        } else if (kind < 9) {
            s.append(one(MEMORY)).append(' ').append(blanks()).append(chance(30) ? "I " : "");
            s.append(chance(40) ? Integer.toOctalString(random.nextInt(0200)) : expression());
        } else if (kind < 13) {
            s.append(one(MEMORY)).append(blanks()).append(chance(30) ? chance(50) ? " I" : " I " : "");
            s.append('(').append(blanks()).append(chance(60) ? String.valueOf(random.nextInt(7)) : expression());
            s.append(chance(50) ? blanks() + ")" : "");
        } else if (kind < 19) {
            s.append(chance(50) ? one(KNOWN) : expression());
            s.append(chance(30) ? " " + one(KNOWN) : "").append(chance(10) ? "\t" + expression() : "");
        }
        return s.append(blanks()).toString();
    }

    private static String blanks() {
        return chance(70) ? "" : chance(50) ? " " : "\t ";
    }

    private static String expression() {
        StringBuilder s = new StringBuilder(chance(15) ? "-" : "");
        s.append(term());
        while (chance(30)) {
            s.append(chance(50) ? '+' : '-').append(term());
        }
        return s.toString();
    }

    private static String term() {
        int kind = random.nextInt(20);
        if (kind < 10) {
            return Integer.toOctalString(random.nextInt(chance(70) ? 010 : 010000));
        }
        if (kind < 15) {
            return ".";
        }
        return kind < 18 ? one(NAMES) : kind < 19 ? one(KNOWN) : one(PARTS);
    }
}
