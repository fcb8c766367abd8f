/** Checks what becomes of a TEXT, each in a new machine. */
final class Texts {
    private final Check check;

    Texts(Check check) {
        this.check = check;
    }

    private static String shown(String text) {
        String cut = text.length() > 60 ? text.substring(0, 60) + ".." : text;
        StringBuilder s = new StringBuilder("'");
        for (char c : cut.toCharArray()) {
            s.append(c >= 32 && c < 127 ? String.valueOf(c) : "\\" + Integer.toOctalString(c));
        }
        return s.append("'").toString();
    }

    /** The TEXT's WORDS from 0200 on are these, and no more. */
    void words(String text, int... due) {
        Monitor m = Line.single();
        check.due("WORDS of " + shown(text), Line.assemble(m, 0, text), due.length);
        check.due("FAULT of " + shown(text), m.fault(0), 0);
        check.due("LINE of " + shown(text), m.fault(1), 0);
        for (int i = 0; i < due.length; i++) {
            check.due("WORD " + i + " of " + shown(text), m.peek(0, 0200 + i), due[i]);
        }
    }

    /** The TEXT's WORDS are how many, and the WORD at a is w. */
    void wordAt(String text, int howMany, int a, int w) {
        Monitor m = Line.single();
        check.due("WORDS of " + shown(text), Line.assemble(m, 0, text), howMany);
        check.due("WORD " + Integer.toOctalString(a) + " of " + shown(text), m.peek(0, a), w);
    }

    void faulty(String text, int fault, int line) {
        Monitor m = Line.single();
        check.due("assemble of " + shown(text), Line.assemble(m, 0, text), -2);
        check.due("FAULT of " + shown(text), m.fault(0), fault);
        check.due("LINE of " + shown(text), m.fault(1), line);
    }
}
