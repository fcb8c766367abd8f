/** Terms 3 from the PASSES on, sentence by sentence: the edges of WORDS, LITERALS and FAULTS. */
public final class PassEdgesTest {
    private static final Check CHECK = new Check();
    private static final Texts TEXTS = new Texts(CHECK);

    public static void main(String[] args) {
        dotAtFirst();
        labelsAndOrigins();
        dotGrows();
        secondPass();
        addressesOfMemory();
        onThePage();
        literalsOfAPage();
        likeLiterals();
        literalsOfEveryPage();
        firstFault();
        badStatementFirst();
        noValueInPassOne();
        toldAlready();
        namesAtMost();
        orderInPassOne();
        noValueInPassTwo();
        offThePage();
        putAlready();
        literalPutAlready();
        noPlaceOnThePage();
        literalAheadOfTheWord();
        orderInPassTwo();
        CHECK.finish();
    }

    private static void dotAtFirst() {
        CHECK.says("PASS 1, STATEMENT by STATEMENT, . being 0200 at first:");
        TEXTS.words("A,B=.;.;A;B", 0200, 0200, 0200);
        Monitor m = Line.single();
        Line.assemble(m, 0, "*1000;5");
        CHECK.due("WORDS of a TEXT behind one with *", Line.assemble(m, 0, "."), 1);
        CHECK.due("its . is 0200 again", m.peek(0, 0200), 0200);
    }

    private static void labelsAndOrigins() {
        CHECK.says("a LABEL is . ; * makes . its value; = tells a NAME;");
        TEXTS.wordAt("*0;A,A", 1, 0, 0);
        TEXTS.wordAt("*7777;A,A", 1, 07777, 07777);
        TEXTS.wordAt("*7777+1;A,A", 1, 0, 0);
        TEXTS.wordAt("*-1;A,A", 1, 07777, 07777);
        // a LABEL ahead of * has the . of before
        TEXTS.wordAt("A,*300;A", 1, 0300, 0200);
        TEXTS.wordAt("A,*A+100;A", 1, 0300, 0200);
        TEXTS.wordAt("A,B=A+1;B", 1, 0200, 0201);
        // a * that no WORD follows, and a = change no memory
        TEXTS.words("*300;*200;A=5;5", 5);
        TEXTS.words("A=0;B=7777;C=-1;A;B;C", 0, 07777, 07777);
    }

    private static void dotGrows() {
        CHECK.says("MEMORY and EXPRESSIONS: . is 1 greater.");
        TEXTS.words("TAD 5;TAD I 5;1 2 4;.;A,;.", 01005, 01405, 7, 0203, 0204);
        TEXTS.wordAt("*7776;1;2;A,A", 3, 0, 0);
        TEXTS.wordAt("*7777;TAD 5;A,A", 2, 0, 0);
        TEXTS.wordAt("*7777;TAD 5;A,A", 2, 07777, 01005);
        // a LITERAL does not make . greater
        TEXTS.wordAt("TAD (5);TAD (6);.", 5, 0202, 0202);
    }

    private static void secondPass() {
        CHECK.says("PASS 2 goes over all again, . likewise, and puts WORDS: EXPRESSIONS: all or'ed.");
        // NAMES that are told only further behind
        TEXTS.words("B;A;A,B=5", 5, 0202);
        TEXTS.words("A+B;A=1;B=2", 3);
        TEXTS.words("TAD A;A=5", 01005);
        TEXTS.wordAt("TAD (A;A=5", 2, 0377, 5);
        TEXTS.words("0;0 0;7777 0;4000 1", 0, 0, 07777, 04001);
        TEXTS.words("7070 0707;-1 -1;5 3", 07777, 07777, 7);
        // = is not done again, and * is done as before
        TEXTS.wordAt("A=.;5;*A+2;6", 2, 0202, 6);
        TEXTS.words("A=.;5;*A+1;A;B=.;B", 5, 0200, 0202);
    }

    private static void addressesOfMemory() {
        CHECK.says("with I 0400, and the address a of the EXPRESSION: below 0200 it as it is;");
        TEXTS.words("TAD 0;TAD 1;TAD 176;TAD 177", 01000, 01001, 01176, 01177);
        TEXTS.words("TAD I 0;TAD I 177", 01400, 01577);
        TEXTS.wordAt("*0;TAD 0;TAD 177", 2, 1, 01177);
        TEXTS.wordAt("*177;TAD 177", 1, 0177, 01177);
        TEXTS.wordAt("*7600;TAD 177", 1, 07600, 01177);
        TEXTS.wordAt("*7600;TAD 7777+200", 1, 07600, 01177);
    }

    private static void onThePage() {
        CHECK.says("on the PAGE of . 0200 and its lowest 7 bits.");
        TEXTS.words("TAD 200;TAD 201;TAD 376;TAD 377", 01200, 01201, 01376, 01377);
        TEXTS.words("TAD I 200;TAD I 377", 01600, 01777);
        TEXTS.wordAt("*377;TAD 200", 1, 0377, 01200);
        TEXTS.wordAt("*377;TAD 377", 1, 0377, 01377);
        TEXTS.wordAt("*7600;TAD 7777", 1, 07600, 01377);
        TEXTS.wordAt("*7777;TAD 7600", 1, 07777, 01200);
        TEXTS.wordAt("*7777;TAD -1", 1, 07777, 01377);
    }

    private static void literalsOfAPage() {
        CHECK.says("else a new one: on the PAGE's last place, the next ones one place ahead each.");
        Monitor m = Line.single();
        CHECK.due("WORDS", Line.assemble(m, 0, "TAD (1;TAD (2;TAD (3)"), 6);
        for (int i = 0; i < 3; i++) {
            CHECK.due("WORD " + i, m.peek(0, 0200 + i), 01377 - i);
            CHECK.due("LITERAL " + i, m.peek(0, 0377 - i), i + 1);
        }
        CHECK.due("the place ahead of them", m.peek(0, 0374), 0);
        TEXTS.wordAt("*0;TAD (5", 2, 0177, 5);
        TEXTS.wordAt("*0;TAD (5", 2, 0, 01177);
        TEXTS.wordAt("*0;TAD I (5", 2, 0, 01577);
        TEXTS.wordAt("*7600;TAD (5", 2, 07777, 5);
        TEXTS.wordAt("*7776;TAD (5", 2, 07776, 01377);
        TEXTS.wordAt("*376;TAD (5;", 2, 0377, 5);
    }

    private static void likeLiterals() {
        CHECK.says("( is the address of a LITERAL with the EXPRESSION's value on the PAGE of . : "
                + "one that was put there by a ( for a like value,");
        TEXTS.wordAt("TAD (5;DCA (5)", 3, 0201, 03377);
        TEXTS.wordAt("TAD (5;TAD (6;TAD (7;TAD (2+3;TAD (6;TAD (10-1", 9, 0203, 01377);
        TEXTS.wordAt("TAD (5;TAD (6;TAD (7;TAD (2+3;TAD (6;TAD (10-1", 9, 0204, 01376);
        TEXTS.wordAt("TAD (5;TAD (6;TAD (7;TAD (2+3;TAD (6;TAD (10-1", 9, 0205, 01375);
        TEXTS.wordAt("TAD (-1;TAD (7777", 3, 0201, 01377);
        TEXTS.wordAt("TAD (0;TAD (0", 3, 0201, 01377);
        // the . of one STATEMENT is not that of the next
        TEXTS.wordAt("TAD (.;TAD (.", 4, 0376, 0201);
        TEXTS.wordAt("TAD (.;TAD (.-1", 3, 0377, 0200);
        // a WORD of a like value is no LITERAL, nor is a LITERAL of another PAGE
        TEXTS.wordAt("5;TAD (5", 3, 0377, 5);
        TEXTS.wordAt("TAD (5;*375;6;*201;TAD (6", 5, 0376, 6);
        TEXTS.wordAt("TAD (5;*400;TAD (5", 4, 0577, 5);
        // from another PAGE and back
        TEXTS.wordAt("TAD (5;*400;TAD (6;*201;TAD (5;TAD (6", 7, 0201, 01377);
        TEXTS.wordAt("TAD (5;*400;TAD (6;*201;TAD (5;TAD (6", 7, 0376, 6);
    }

    private static void literalsOfEveryPage() {
        CHECK.says("( is the address of a LITERAL with the EXPRESSION's value on the PAGE of . :");
        StringBuilder text = new StringBuilder();
        for (int page = 0; page < 32; page++) {
            text.append('*').append(Integer.toOctalString(page * 128)).append(";TAD (5;TAD (6;TAD (5\n");
        }
        Monitor m = Line.single();
        CHECK.due("WORDS of 32 PAGES", Line.assemble(m, 0, text.toString()), 32 * 5);
        for (int page = 0; page < 32; page++) {
            int first = page * 128;
            int own = page == 0 ? 01000 : 01200;
            CHECK.due("WORD of PAGE " + page, m.peek(0, first), own + 0177);
            CHECK.due("second WORD of PAGE " + page, m.peek(0, first + 1), own + 0176);
            CHECK.due("third WORD of PAGE " + page, m.peek(0, first + 2), own + 0177);
            CHECK.due("LITERAL of PAGE " + page, m.peek(0, first + 127), 5);
            CHECK.due("second LITERAL of PAGE " + page, m.peek(0, first + 126), 6);
        }
    }

    private static void firstFault() {
        CHECK.says("FAULTS: the first one of PASS 1, else of PASS 2:");
        TEXTS.faulty("X\n1\n9", 1, 3);
        TEXTS.faulty("TAD 400\nA=A", 2, 2);
        TEXTS.faulty("1;*200;1\nA,A,", 3, 2);
        TEXTS.faulty("A=A\n9", 2, 1);
        TEXTS.faulty("9\nA=A", 1, 1);
        TEXTS.faulty("A,A,\nB=B\n9", 3, 1);
        TEXTS.faulty("X\nTAD 400\n*200;1", 2, 1);
        TEXTS.faulty("1\nTAD 400\nX", 4, 2);
        TEXTS.faulty("1\n*200;1\nX", 5, 2);
    }

    private static void badStatementFirst() {
        CHECK.says("1 a STATEMENT that is not as told (ahead of all else in it).");
        TEXTS.faulty("CLA, 9", 1, 1);
        TEXTS.faulty("A,A, 9", 1, 1);
        TEXTS.faulty("CLA=9", 1, 1);
        TEXTS.faulty("A=A+9", 1, 1);
        TEXTS.faulty("*A 5", 1, 1);
        TEXTS.faulty("*A+", 1, 1);
        TEXTS.faulty("A,A,A=A 5", 1, 1);
        // but not ahead of what is in the STATEMENT before
        TEXTS.faulty("CLA,;9", 3, 1);
        TEXTS.faulty("*A;9", 2, 1);
    }

    private static void noValueInPassOne() {
        CHECK.says("PASS 1: 2 a NAME in an EXPRESSION behind * or = has no value (yet);");
        TEXTS.faulty("*A", 2, 1);
        TEXTS.faulty("*A;A=5", 2, 1);
        TEXTS.faulty("1\n*5+A\nA,", 2, 2);
        TEXTS.faulty("B=A", 2, 1);
        TEXTS.faulty("B=A\nA=5", 2, 1);
        TEXTS.faulty("B=1-A;A,", 2, 1);
        TEXTS.faulty("A=A", 2, 1);
        TEXTS.faulty("A=1+A", 2, 1);
        TEXTS.wordAt("A=300;*A;5", 1, 0300, 5);
        TEXTS.words("A,B=A;B", 0200);
        TEXTS.words("A=1;B=A;C=A+B;C", 2);
        // of other STATEMENTS only PASS 2 asks
        TEXTS.words("A;TAD A;A=5", 5, 01005);
    }

    private static void toldAlready() {
        CHECK.says("3 a NAME is told that was told already;");
        TEXTS.faulty("A,A,", 3, 1);
        TEXTS.faulty("A,\nA,", 3, 2);
        TEXTS.faulty("A,\nA=5", 3, 2);
        TEXTS.faulty("A=5\nA=5", 3, 2);
        TEXTS.faulty("A=5\n\nA,", 3, 3);
        TEXTS.faulty("A,A=5", 3, 1);
        TEXTS.faulty("A,*300;A,", 3, 1);
        TEXTS.faulty("NOP,", 3, 1);
        // another TEXT may tell it again
        Monitor m = Line.single();
        CHECK.due("a TEXT", Line.assemble(m, 0, "A=5;A"), 1);
        CHECK.due("another TEXT", Line.assemble(m, 0, "A=6;A"), 1);
        CHECK.due("its WORD", m.peek(0, 0200), 6);
        CHECK.due("a TEXT that does not tell it", Line.assemble(m, 0, "A"), -2);
        CHECK.due("its FAULT", m.fault(0), 2);
        CHECK.due("a TEXT behind a FAULT", Line.assemble(m, 0, "A=7;A"), 1);
    }

    private static String names(int howMany, String behind) {
        StringBuilder text = new StringBuilder();
        for (int i = 0; i < howMany; i++) {
            text.append('N').append(i).append(behind);
        }
        return text.toString();
    }

    private static void namesAtMost() {
        CHECK.says("6 more than 200 NAMES are told");
        TEXTS.words(names(200, ","));
        TEXTS.words(names(200, "=5\n"));
        TEXTS.words(names(199, ",") + "X=5;X;N198", 5, 0200);
        TEXTS.words(names(199, "=5\n") + "X,X;N198", 0200, 5);
        TEXTS.faulty(names(201, ","), 6, 1);
        TEXTS.faulty(names(201, ",\n"), 6, 201);
        TEXTS.faulty(names(201, "=5\n"), 6, 201);
        TEXTS.faulty(names(200, ",") + "X=5", 6, 1);
        TEXTS.faulty(names(200, "=5\n") + "X,", 6, 201);
        TEXTS.faulty(names(200, "=5\n") + "5\nA,B,", 6, 202);
        // the 200 of one TEXT leave those of the next their places
        Monitor m = Line.single();
        CHECK.due("200 NAMES", Line.assemble(m, 0, names(200, ",")), 0);
        CHECK.due("200 NAMES again", Line.assemble(m, 0, names(200, ",")), 0);
        CHECK.due("201 NAMES", Line.assemble(m, 0, names(201, ",")), -2);
        CHECK.due("200 NAMES behind a FAULT", Line.assemble(m, 0, names(200, ",")), 0);
    }

    private static void orderInPassOne() {
        CHECK.says("(first LABELS in order; of a = 2, then 3, then 6).");
        String full = names(200, ",") + "\n";
        TEXTS.faulty(full + "X,N0,", 6, 2);
        TEXTS.faulty(full + "N0,X,", 3, 2);
        TEXTS.faulty(full + "N0,*Y", 3, 2);
        TEXTS.faulty(full + "X,*Y", 6, 2);
        TEXTS.faulty(full + "N0,X=Y", 3, 2);
        TEXTS.faulty(full + "X,N0=Y", 6, 2);
        TEXTS.faulty(full + "N0=Y", 2, 2);
        TEXTS.faulty(full + "X=Y", 2, 2);
        TEXTS.faulty(full + "X=X", 2, 2);
        TEXTS.faulty(full + "N0=5", 3, 2);
        TEXTS.faulty(full + "CLA=5", 3, 2);
        TEXTS.faulty(full + "X=5", 6, 2);
        TEXTS.faulty("A=B;A,", 2, 1);
        TEXTS.faulty("A=1\nA=B", 2, 2);
        TEXTS.faulty("A,A=A", 3, 1);
    }

    private static void noValueInPassTwo() {
        CHECK.says("PASS 2: 2 a NAME has no value;");
        TEXTS.faulty("A", 2, 1);
        TEXTS.faulty("1\n1 2 A", 2, 2);
        TEXTS.faulty("1\n\nA+1", 2, 3);
        TEXTS.faulty("-A", 2, 1);
        TEXTS.faulty("A-A", 2, 1);
        TEXTS.faulty("TAD A", 2, 1);
        TEXTS.faulty("TAD I A", 2, 1);
        TEXTS.faulty("TAD (A", 2, 1);
        TEXTS.faulty("TAD (1+A)", 2, 1);
        TEXTS.faulty("AB,A", 2, 1);
    }

    private static void offThePage() {
        CHECK.says("4 an address neither below 0200 nor on the PAGE of . ;");
        TEXTS.words("TAD 177", 01177);
        TEXTS.words("TAD 377", 01377);
        TEXTS.faulty("TAD 400", 4, 1);
        TEXTS.faulty("TAD 7777", 4, 1);
        TEXTS.faulty("TAD -1", 4, 1);
        TEXTS.faulty("TAD I 400", 4, 1);
        TEXTS.faulty("*0;TAD 200", 4, 1);
        TEXTS.faulty("*177;TAD .+1", 4, 1);
        TEXTS.faulty("*400;TAD 377", 4, 1);
        TEXTS.faulty("*400;TAD .-1", 4, 1);
        TEXTS.faulty("*577;TAD .+1", 4, 1);
        TEXTS.wordAt("*7777;TAD .+1", 1, 07777, 01000);
        TEXTS.faulty("*7600;TAD 7577", 4, 1);
        TEXTS.faulty("1\n2\n*1000;TAD 200", 4, 3);
        // of EXPRESSIONS and LITERALS any value will do
        TEXTS.words("400;7777", 0400, 07777);
        TEXTS.wordAt("TAD (7777", 2, 0377, 07777);
    }

    private static void putAlready() {
        CHECK.says("5 a WORD or LITERAL comes where one was put already by this TEXT,");
        TEXTS.faulty("1;*200;1", 5, 1);
        TEXTS.faulty("1;2\n*200;3\n4", 5, 2);
        TEXTS.faulty("1;2\n*201\n3", 5, 3);
        TEXTS.words("1;2;*200;*202;3", 1, 2, 3);
        TEXTS.faulty("*201;1;2;*200;3;4", 5, 1);
        TEXTS.faulty("*0;1;*7777;2;3", 5, 1);
        TEXTS.faulty("*7777;1;2;*0;3", 5, 1);
        // a WORD of 0 is one, too
        TEXTS.faulty("0;*200;0", 5, 1);
        // by this TEXT, not by another one, nor by poke()
        Monitor m = Line.single();
        m.poke(0, 0200, 7);
        m.poke(0, 0377, 7);
        CHECK.due("a TEXT", Line.assemble(m, 0, "TAD (5"), 2);
        CHECK.due("the same TEXT again", Line.assemble(m, 0, "TAD (6"), 2);
        CHECK.due("its LITERAL", m.peek(0, 0377), 6);
        CHECK.due("a TEXT with a FAULT", Line.assemble(m, 0, "1;*200;2"), -2);
        CHECK.due("the WORD stays", m.peek(0, 0200), 01377);
        CHECK.due("a TEXT behind a FAULT", Line.assemble(m, 0, "1;2;TAD (3"), 4);
    }

    private static void literalPutAlready() {
        CHECK.says("5 a WORD or LITERAL comes where one was put already by this TEXT,");
        // a LITERAL on a WORD, also one of a like value, and a WORD on a LITERAL
        TEXTS.faulty("*377;5;*200;TAD (5", 5, 1);
        TEXTS.faulty("*377;5\n*200;TAD (6", 5, 2);
        TEXTS.faulty("*376;5\n*200;TAD (6\nTAD (7", 5, 3);
        TEXTS.wordAt("*376;5;*200;TAD (6;TAD (6", 4, 0377, 6);
        TEXTS.faulty("TAD (5\n*377;5", 5, 2);
        TEXTS.faulty("TAD (5;TAD (6\n*376;5", 5, 2);
        TEXTS.wordAt("TAD (5;TAD (6;*375;7", 5, 0375, 7);
        TEXTS.wordAt("*377;5;*400;TAD (5", 3, 0577, 5);
    }

    /** Of 128 places, n WORDS with a LITERAL each take 2 n. */
    private static String filled(int n) {
        StringBuilder text = new StringBuilder();
        for (int i = 0; i < n; i++) {
            text.append("TAD (").append(Integer.toOctalString(i)).append('\n');
        }
        return text.toString();
    }

    private static void noPlaceOnThePage() {
        CHECK.says("or a PAGE has no place for it");
        TEXTS.wordAt(filled(63) + "7\n7", 128, 0300, 7);
        TEXTS.wordAt(filled(64), 128, 0277, 01300);
        TEXTS.wordAt(filled(64), 128, 0300, 63);
        TEXTS.faulty(filled(65), 5, 65);
        TEXTS.faulty(filled(64) + "*200;TAD (100", 5, 65);
        TEXTS.faulty(filled(64) + "*200;TAD (0", 5, 65);
        TEXTS.faulty(filled(64) + "7", 5, 65);
        TEXTS.wordAt(filled(64) + "*400;TAD (100", 130, 0577, 0100);
        // the PAGE ahead of it is another one
        TEXTS.wordAt("*177;1;" + filled(64), 129, 0177, 1);
    }

    private static void literalAheadOfTheWord() {
        CHECK.says("(of a WORD with ( : the LITERAL ahead of the WORD).");
        // at a PAGE's last place the LITERAL takes the WORD's own
        TEXTS.faulty("*377;TAD (5", 5, 1);
        TEXTS.faulty("TAD (1;*376;TAD (2", 5, 1);
        TEXTS.wordAt("TAD (1;*376;TAD (1", 3, 0376, 01377);
        TEXTS.wordAt("*376;TAD (1", 2, 0376, 01377);
        TEXTS.faulty("*376;TAD (1;TAD (1", 5, 1);
        // a WORD that finds its place taken: the LITERAL is no help
        TEXTS.faulty("1;*200;TAD (5", 5, 1);
    }

    private static void orderInPassTwo() {
        CHECK.says("PASS 2: 2 a NAME has no value; 4 an address neither below 0200 nor on the PAGE of . ; "
                + "5 a WORD or LITERAL comes where one was put already by this TEXT,");
        TEXTS.faulty("1;*200;X", 2, 1);
        TEXTS.faulty("1;*200;TAD X", 2, 1);
        TEXTS.faulty("*377;1;*200;TAD (X", 2, 1);
        TEXTS.faulty("TAD 400+X", 2, 1);
        TEXTS.faulty("1;*200;TAD 400", 4, 1);
    }
}
