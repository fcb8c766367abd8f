/** What a test does with a monitor again and again. */
final class Line {
    private Line() {
    }

    static Monitor opened(int users, int fields, int quantum, int beat) {
        Monitor m = new Monitor();
        m.open(users, fields, quantum, beat);
        return m;
    }

    /** One USER whose machine meets no TICK for a long time. */
    static Monitor single() {
        return opened(1, 1, 64, 1000);
    }

    /** The text comes on the (empty) tape, to the byte. */
    static void type(Monitor m, String text) {
        for (int from = 0; from < text.length(); from += 20) {
            int[] n = packed(text, from);
            m.feed(n[0], n[1], n[2], n[3], n[4]);
        }
        m.end(text.length());
    }

    /** Twenty bytes of the text as feed() wants them, with zeros behind its end. */
    static int[] packed(String text, int from) {
        int[] n = new int[5];
        for (int i = 0; i < 20; i++) {
            int b = from + i < text.length() ? text.charAt(from + i) & 255 : 0;
            n[i / 4] = n[i / 4] << 8 | b;
        }
        return n;
    }

    static int assemble(Monitor m, int u, String text) {
        type(m, text);
        return m.assemble(u);
    }

    static void pokeAll(Monitor m, int u, int from, int... words) {
        for (int i = 0; i < words.length; i++) {
            m.poke(u, from + i & 4095, words[i]);
        }
    }

    /** The USER has these WORDS from 0200 on, and is started there. */
    static void launch(Monitor m, int u, int... words) {
        pokeAll(m, u, 0200, words);
        m.start(u, 0200);
    }

    /** More STEPS than a call can do. */
    static void runLong(Monitor m, int steps) {
        for (int left = steps; left > 0; left -= 1000) {
            m.run(Math.min(left, 1000));
        }
    }

    /** The ROW as "1 2 3". */
    static String rowOf(Monitor m) {
        StringBuilder s = new StringBuilder();
        for (int i = 0, u = m.row(0); u >= 0; u = m.row(++i)) {
            s.append(i == 0 ? "" : " ").append(u);
        }
        return s.toString();
    }

    static String states(Monitor m) {
        return ofAll(m, 3);
    }

    /** about(u, what) of all USERS, one behind the other. */
    static String ofAll(Monitor m, int what) {
        StringBuilder s = new StringBuilder();
        for (int u = 0, users = m.house(0); u < users; u++) {
            s.append(m.about(u, what));
        }
        return s.toString();
    }

    /** All that calls show, but for the tape and SWITCHES, which they show only by changing them. */
    static String seen(Monitor m) {
        StringBuilder s = new StringBuilder("digest ").append(m.digest());
        s.append(", fault ").append(m.fault(0)).append(' ').append(m.fault(1));
        s.append(", row ").append(rowOf(m));
        for (int u = 0, users = m.house(0); u < users; u++) {
            s.append(", in ");
            for (int i = 0, c = m.waiting(u, 0); c >= 0; c = m.waiting(u, ++i)) {
                s.append(' ').append(c);
            }
            s.append(", out ");
            for (int i = 0, c = m.queued(u, 0); c >= 0; c = m.queued(u, ++i)) {
                s.append(' ').append(c);
            }
            s.append(", paper ");
            for (int i = 0, c = m.letter(u, 0); c >= 0 && i < 20; c = m.letter(u, ++i)) {
                s.append(' ').append(c);
            }
        }
        return s.toString();
    }
}
