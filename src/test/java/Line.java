/** What a test does with a monitor again and again. */
final class Line {
    private Line() {
    }

    static LineMonitor opened(int users, int fields, int quantum, int beat) {
        LineMonitor m = new LineMonitor();
        m.open(users, fields, quantum, beat);
        return m;
    }

    /** One USER whose machine meets no TICK for a long time. */
    static LineMonitor single() {
        return opened(1, 1, 64, 1000);
    }

    /** The text comes on the (empty) tape, to the byte. */
    static void type(LineMonitor m, String text) {
        for (int from = 0; from < text.length(); from += 20) {
            int[] n = packed(text, from);
            m.feed(n[0], n[1], n[2], n[3], n[4]);
        }
        m.end(text.length());
    }

    /** Twenty bytes of the text as feed() wants them, with zeros behind its end. */
    static int[] packed(String text, int from) {
        int[] n = new int[5];
        for (int i = 0; i < 20; i++) {
            int b = from + i < text.length() ? text.charAt(from + i) & 255 : 0;
            n[i / 4] = n[i / 4] << 8 | b;
        }
        return n;
    }

    static int assemble(LineMonitor m, int u, String text) {
        type(m, text);
        return m.assemble(u);
    }

    static void pokeAll(LineMonitor m, int u, int from, int... words) {
        for (int i = 0; i < words.length; i++) {
            m.poke(u, from + i & 4095, words[i]);
        }
    }

    /** The ROW as "1 2 3". */
    static String rowOf(LineMonitor m) {
        StringBuilder s = new StringBuilder();
        for (int i = 0; m.row(i) >= 0; i++) {
            s.append(i == 0 ? "" : " ").append(m.row(i));
        }
        return s.toString();
    }

    static String states(LineMonitor m) {
        StringBuilder s = new StringBuilder();
        for (int u = 0; u < m.house(0); u++) {
            s.append(m.about(u, 3));
        }
        return s.toString();
    }
}
