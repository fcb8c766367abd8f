/** Promises 5 and 6 and Terms 3: TEXTS, their WORDS and their FAULTS. */
public final class AssemblerTest {
    private static final Check CHECK = new Check();
    private static final Texts TEXTS = new Texts(CHECK);

    public static void main(String[] args) {
        lines();
        blanks();
        names();
        expressions();
        knownNames();
        origins();
        memory();
        indirect();
        literals();
        badStatements();
        faultsOfPassOne();
        orderOfFaults();
        memoryWordsAsNames();
        faultsOfPassTwo();
        tooManyNames();
        faultStays();
        nothingComesWithAFault();
        whereItComes();
        CHECK.finish();
    }

    private static void lines() {
        TEXTS.words("");
        TEXTS.words("\n");
        TEXTS.words("\n\n;;\n ; \n");
        TEXTS.words("1", 1);
        TEXTS.words("1\n", 1);
        TEXTS.words("1;2\n3", 1, 2, 3);
        TEXTS.words("1/2;3\n4", 1, 4);
        TEXTS.words("/ all 999 of it ( ; A,A,\n4/", 4);
        TEXTS.words("1 / x / y\n", 1);
        TEXTS.words("1;/\n;2", 1, 2);
        TEXTS.faulty("1\r\n", 1, 1);
        TEXTS.faulty("\n\n1\n9", 1, 4);
        TEXTS.faulty("/9\n/9\n;;9;1/\n", 1, 3);
        TEXTS.faulty("\0", 1, 1);
        TEXTS.faulty("\u00e9", 1, 1);
        TEXTS.faulty("cla", 1, 1);
    }

    private static void blanks() {
        TEXTS.words(" \t 1 \t;\t2 ", 1, 2);
        TEXTS.words("A,B,\tC, ;5", 5);
        TEXTS.words(" A, \t B, 5", 5);
        TEXTS.words("* 200; 5", 5);
        TEXTS.words("*\t200 ; 5", 5);
        TEXTS.words("A= 5; A", 5);
        TEXTS.words("A=\t5 ; A", 5);
        TEXTS.words("TAD  5", 01005);
        TEXTS.words("TAD\tI\t5", 01405);
        TEXTS.words("TAD.", 01200);
        TEXTS.words("TAD-7773", 01005);
        TEXTS.words("1 2\t 4", 7);
        TEXTS.faulty("A , 5", 1, 1);
        TEXTS.faulty("A =5", 1, 1);
        TEXTS.faulty("A+ 5; A=1", 1, 1);
        TEXTS.faulty("A +5; A=1", 1, 1);
        TEXTS.faulty("- 5", 1, 1);
        TEXTS.faulty("5 + 5", 1, 1);
        TEXTS.wordAt("TAD ( 5 ) ", 2, 0377, 5);
        TEXTS.wordAt("TAD(5", 2, 0377, 5);
        TEXTS.wordAt("TAD I(5)", 2, 0200, 01777);
        TEXTS.wordAt("TAD (5 )", 2, 0377, 5);
    }

    private static void names() {
        TEXTS.words("ABCDEF=7; ABCDEF", 7);
        TEXTS.words("A12345=7; A12345", 7);
        TEXTS.words("Z9=7; Z9", 7);
        TEXTS.words("A=1; AB=2; B=3; BA=4; A; AB; B; BA", 1, 2, 3, 4);
        TEXTS.words("A=1;B=A;C=B+A; C", 2);
        TEXTS.words("TADX=5; TADX", 5);
        TEXTS.words("TAD1=5; TAD1", 5);
        TEXTS.words("IX=5; TAD IX", 01005);
        TEXTS.words("I1=5; TAD I1", 01005);
        TEXTS.faulty("ABCDEFG=7", 1, 1);
        TEXTS.faulty("ABCDEFG, 7", 1, 1);
        TEXTS.faulty("TAD ABCDEFG", 1, 1);
        TEXTS.faulty("1A, 7", 1, 1);
        TEXTS.faulty("1A", 1, 1);
        TEXTS.faulty("a, 7", 1, 1);
        TEXTS.faulty("A_, 7", 1, 1);
    }

    private static void expressions() {
        TEXTS.words("0;7;77;777;7777;0007", 0, 7, 077, 0777, 07777, 7);
        TEXTS.words("-1;-0;-7777", 07777, 0, 1);
        TEXTS.words("1+2;1-2;-1-2;-1+2;7777+1", 3, 07777, 07775, 1, 0);
        TEXTS.words("1+2-3+4-5", 07777);
        TEXTS.words(".;.;.+1;-.;.-.", 0200, 0201, 0203, 07575, 0);
        TEXTS.words("A, .-A; .-A; B, A-B; 5", 0, 1, 07776, 5);
        TEXTS.words("B;B, 1", 0201, 1);
        TEXTS.words("CLA+1; CLA-CLA", 07201, 0);
        TEXTS.words("1 2 4 -10", 07777);
        TEXTS.words("CLA -1", 07777);
        TEXTS.words("CLA CLL CML RTL", 07326);
        TEXTS.words(". 1", 0201);
        TEXTS.faulty("12345", 1, 1);
        TEXTS.faulty("8", 1, 1);
        TEXTS.faulty("18", 1, 1);
        TEXTS.faulty("1+", 1, 1);
        TEXTS.faulty("+1", 1, 1);
        TEXTS.faulty("1++1", 1, 1);
        TEXTS.faulty("1+-1", 1, 1);
        TEXTS.faulty("--1", 1, 1);
        TEXTS.faulty("-", 1, 1);
        TEXTS.faulty("1.", 1, 1);
        TEXTS.faulty(".1", 1, 1);
        TEXTS.faulty("..", 1, 1);
        TEXTS.faulty("A.", 1, 1);
        TEXTS.faulty(".A", 1, 1);
        TEXTS.faulty("1(2", 1, 1);
        TEXTS.faulty("(2", 1, 1);
        TEXTS.faulty("1)", 1, 1);
        TEXTS.faulty("1,", 1, 1);
        TEXTS.faulty("=1", 1, 1);
        TEXTS.faulty(",1", 1, 1);
    }

    private static void knownNames() {
        TEXTS.words("CLA;CLL;CMA;CML;RAR;RAL;RTR;RTL;IAC;NOP", 07200, 07100, 07040, 07020, 07010, 07004,
                07012, 07006, 07001, 07000);
        TEXTS.words("SMA;SZA;SPA;SNA;SNL;SZL;SKP;OSR;HLT;CIA", 07500, 07440, 07510, 07450, 07420, 07430,
                07410, 07404, 07402, 07041);
        TEXTS.words("KSF;KRB;TSF;TLS;SLP;RDB;WRB;WHO", 06031, 06036, 06041, 06046, 06051, 06052, 06053,
                06054);
        TEXTS.words("AND 1;TAD 1;ISZ 1;DCA 1;JMS 1;JMP 1", 1, 01001, 02001, 03001, 04001, 05001);
    }

    private static void origins() {
        TEXTS.wordAt("*300; 5", 1, 0300, 5);
        TEXTS.wordAt("*.+100; 5", 1, 0300, 5);
        TEXTS.wordAt("*-1; 5; 6", 2, 07777, 5);
        TEXTS.wordAt("*-1; 5; 6", 2, 0, 6);
        TEXTS.wordAt("*-1; 5; A, A+3", 2, 0, 3);
        TEXTS.wordAt("A, *300; A", 1, 0300, 0200);
        TEXTS.wordAt("A=300; *A; 5", 1, 0300, 5);
        TEXTS.wordAt("A, *A+100; 5", 1, 0300, 5);
        TEXTS.wordAt("A,B, C=A+B; C", 1, 0200, 0400);
        TEXTS.wordAt("*300; 5; *200; 6", 2, 0200, 6);
        TEXTS.faulty("*1 2", 1, 1);
        TEXTS.faulty("*", 1, 1);
        TEXTS.faulty("**1", 1, 1);
        TEXTS.faulty("A=", 1, 1);
        TEXTS.faulty("A=1 2", 1, 1);
        TEXTS.faulty("A=B=1", 1, 1);
        TEXTS.faulty("A=1 B=2", 1, 1);
    }

    private static void memory() {
        TEXTS.words("TAD 0; TAD 177; TAD 200; TAD 377", 01000, 01177, 01200, 01377);
        TEXTS.wordAt("*7600; JMP 7777", 1, 07600, 05377);
        TEXTS.wordAt("*7777; JMP .", 1, 07777, 05377);
        TEXTS.wordAt("*0; JMP 0; JMP 177", 2, 1, 05177);
        TEXTS.faulty("TAD 400", 4, 1);
        TEXTS.faulty("1\nTAD 7777", 4, 2);
        TEXTS.faulty("*0; TAD 200", 4, 1);
        TEXTS.faulty("*377; TAD .; TAD .-1", 4, 1);
        TEXTS.faulty("TAD", 1, 1);
        TEXTS.faulty("TAD;", 1, 1);
        TEXTS.faulty("TAD 1 2", 1, 1);
        TEXTS.faulty("TAD +1", 1, 1);
        TEXTS.faulty("TAD+1", 1, 1);
        TEXTS.faulty("TAD )", 1, 1);
        TEXTS.faulty("TAD 1)", 1, 1);
        TEXTS.faulty("TAD *1", 1, 1);
        TEXTS.faulty("CLA; CLA TAD 1", 2, 1);
    }

    private static void indirect() {
        TEXTS.words("TAD I 5; AND I 5; JMP I 200", 01405, 0405, 05600);
        TEXTS.words("TAD I .", 01600);
        TEXTS.words("TAD I-7773", 01405);
        TEXTS.words("TAD I  -7773", 01405);
        TEXTS.words("A=5; TAD I A", 01405);
        TEXTS.faulty("TAD I", 2, 1);
        TEXTS.faulty("TAD I+1", 2, 1);
        TEXTS.faulty("TAD I /5", 2, 1);
        TEXTS.faulty("TAD I +1", 1, 1);
        TEXTS.faulty("TAD I)", 1, 1);
        TEXTS.faulty("TAD I,", 1, 1);
        TEXTS.faulty("TAD I=5", 1, 1);
        TEXTS.faulty("TAD I I", 2, 1);
        TEXTS.faulty("TAD I I I", 1, 1);
        TEXTS.faulty("TAD I 5 6", 1, 1);
        TEXTS.faulty("I 5", 2, 1);
        TEXTS.faulty("TAD 5+I", 2, 1);
        TEXTS.faulty("TAD I 8", 1, 1);
        TEXTS.faulty("CLA I 5", 2, 1);
    }

    private static void literals() {
        String text = "TAD (5; TAD (6); TAD (5; TAD (2+3; TAD I (.; *400; TAD (5; *205; TAD (6; TAD (-1";
        Monitor m = Line.single();
        CHECK.due("WORDS with LITERALS", Line.assemble(m, 0, text), 8 + 4 + 1);
        int[] due = {01377, 01376, 01377, 01377, 01775, 01376, 01374};
        for (int i = 0; i < due.length; i++) {
            CHECK.due("WORD " + i + " with LITERALS", m.peek(0, 0200 + i), due[i]);
        }
        int[] put = {07777, 0204, 6, 5};
        for (int i = 0; i < put.length; i++) {
            CHECK.due("LITERAL " + i, m.peek(0, 0374 + i), put[i]);
        }
        CHECK.due("LITERAL of the next PAGE", m.peek(0, 0577), 5);
        CHECK.due("WORD of the next PAGE", m.peek(0, 0400), 01377);
        TEXTS.wordAt("*0; TAD (5", 2, 0, 01177);
        TEXTS.wordAt("*0; TAD (5", 2, 0177, 5);
        TEXTS.wordAt("*7600; TAD (5", 2, 07777, 5);
        TEXTS.wordAt("TAD (B; B, 7", 3, 0377, 0201);
        // A WORD of a like value is no LITERAL.
        TEXTS.faulty("*377; 5; *200; TAD (5", 5, 1);
        TEXTS.wordAt("*376; 5; *200; TAD (5", 3, 0377, 5);
        TEXTS.faulty("TAD (5 6", 1, 1);
        TEXTS.faulty("TAD (", 1, 1);
        TEXTS.faulty("TAD ()", 1, 1);
        TEXTS.faulty("TAD ((5", 1, 1);
        TEXTS.faulty("TAD (5))", 1, 1);
        TEXTS.faulty("TAD (I 5", 1, 1);
        TEXTS.faulty("TAD (I", 2, 1);
        TEXTS.faulty("*377; TAD (5", 5, 1);
        TEXTS.faulty("TAD (5\n*377\n6", 5, 3);
        fillAPage();
    }

    /** 64 WORDS with a LITERAL each are a PAGE; there is no place for one more. */
    private static void fillAPage() {
        StringBuilder text = new StringBuilder();
        for (int i = 0; i < 64; i++) {
            text.append("TAD (").append(Integer.toOctalString(i)).append('\n');
        }
        TEXTS.wordAt(text.toString(), 128, 0300, 63);
        TEXTS.wordAt(text.toString(), 128, 0277, 01300);
        TEXTS.faulty(text + "*300; TAD (100", 5, 65);
        TEXTS.faulty(text + "*300; TAD (77", 5, 65);
        TEXTS.wordAt(text + "*400; TAD (0", 130, 0577, 0);
    }

    private static void badStatements() {
        TEXTS.faulty("A", 2, 1);
        TEXTS.faulty("A, A,", 3, 1);
        TEXTS.faulty("A,,", 1, 1);
        TEXTS.faulty("A:", 1, 1);
        TEXTS.faulty("1;2;*;3", 1, 1);
        TEXTS.faulty("1 ! 2", 1, 1);
        TEXTS.faulty("A, *200, 5", 1, 1);
        TEXTS.faulty("*200 A, 5", 1, 1);
        TEXTS.faulty("5 A, 6", 1, 1);
        TEXTS.faulty("B=5, 6", 1, 1);
    }

    private static void faultsOfPassOne() {
        TEXTS.faulty("*A; A=5", 2, 1);
        TEXTS.faulty("B=A; A=5", 2, 1);
        TEXTS.faulty("B=A\nA, 5", 2, 1);
        TEXTS.faulty("A=A", 2, 1);
        TEXTS.faulty("\n*TAD", 2, 2);
        TEXTS.faulty("B=I", 2, 1);
        TEXTS.faulty("A=1\nA=1", 3, 2);
        TEXTS.faulty("A=1\nA, 1", 3, 2);
        TEXTS.faulty("A, 1\nA=1", 3, 2);
        TEXTS.faulty("A, A=1", 3, 1);
        TEXTS.faulty("CLA=7200", 3, 1);
        TEXTS.faulty("WHO, 5", 3, 1);
        TEXTS.faulty("I=5", 3, 1);
        TEXTS.faulty("I, 5", 3, 1);
    }

    private static void orderOfFaults() {
        // the first of PASS 1, whatever PASS 2 would find ahead of it
        TEXTS.faulty("TAD 400\nA=1\nA=2", 3, 3);
        TEXTS.faulty("B\n9", 1, 2);
        // STATEMENT by STATEMENT
        TEXTS.faulty("A=1;A=2;9", 3, 1);
        TEXTS.faulty("9;A=1;A=2", 1, 1);
        // 1 ahead of all else in a STATEMENT, then LABELS in order, then what follows
        TEXTS.faulty("A=1;A, 9", 1, 1);
        TEXTS.faulty("A=1;A, *B", 3, 1);
        TEXTS.faulty("A=1;A=B", 2, 1);
        TEXTS.faulty("A=B;9", 2, 1);
        // of PASS 2: value, address, place
        TEXTS.faulty("*200; 1; *200; TAD X", 2, 1);
        TEXTS.faulty("*200; 1; *200; TAD 400", 4, 1);
        TEXTS.faulty("TAD 400; X", 4, 1);
        TEXTS.faulty("X; TAD 400", 2, 1);
    }

    /** A MEMORY's word is a NAME that was told already, if it is told by a LABEL or a =. */
    private static void memoryWordsAsNames() {
        TEXTS.faulty("TAD, 5", 3, 1);
        TEXTS.faulty("TAD=5", 3, 1);
        TEXTS.faulty("TAD TAD", 2, 1);
        TEXTS.faulty("5 TAD", 2, 1);
        TEXTS.faulty("-TAD", 2, 1);
    }

    private static void faultsOfPassTwo() {
        TEXTS.faulty("1\nX", 2, 2);
        TEXTS.faulty("1\nTAD X", 2, 2);
        TEXTS.faulty("1\nTAD (X", 2, 2);
        TEXTS.faulty("1 X", 2, 1);
        TEXTS.faulty("1\n*200\n2", 5, 3);
        TEXTS.faulty("*7777; 1; *0; 1; *7777; 1; 2", 5, 1);
        TEXTS.words("1;2;*200;*202;3", 1, 2, 3);
        TEXTS.words("1;*200;A,;*201;A", 1, 0200);
    }

    private static void tooManyNames() {
        StringBuilder text = new StringBuilder();
        for (int i = 0; i < 200; i++) {
            text.append('N').append(i).append(i % 2 == 0 ? ",\n" : "=1\n");
        }
        TEXTS.words(text + "N198 N199", 0201);
        TEXTS.faulty(text + "\nX,", 6, 202);
        TEXTS.faulty(text + "X=5", 6, 201);
        TEXTS.faulty(text + "X=Y", 2, 201);
        TEXTS.faulty(text + "N7=5", 3, 201);
        TEXTS.faulty(text + "N7, X,", 3, 201);
        TEXTS.faulty(text + "X, N7,", 6, 201);
        TEXTS.faulty(text + "X, 9", 1, 201);
        Monitor m = Line.single();
        CHECK.due("a TEXT with 200 NAMES", Line.assemble(m, 0, text.toString()), 0);
        CHECK.due("the NAMES are gone behind it", Line.assemble(m, 0, "N0, X, 5"), 1);
        CHECK.due("all of them", Line.assemble(m, 0, "N1"), -2);
    }

    private static void faultStays() {
        Monitor m = Line.single();
        Line.assemble(m, 0, "1\n9");
        CHECK.due("assemble(1)", Line.assemble(m, 1, "1"), -1);
        CHECK.due("FAULT of the latest that was not -1", m.fault(0), 1);
        CHECK.due("its LINE", m.fault(1), 2);
        CHECK.due("assemble of what stayed on the tape", m.assemble(0), 1);
        CHECK.due("no FAULT then", m.fault(0), 0);
        CHECK.due("no LINE then", m.fault(1), 0);
        CHECK.due("assemble of an empty tape", m.assemble(0), 0);
        CHECK.due("fault(3)", m.fault(3), -1);
    }

    private static void nothingComesWithAFault() {
        Monitor m = Line.single();
        Line.assemble(m, 0, "1;2;TAD (3");
        long before = m.digest();
        CHECK.due("a FAULT behind WORDS", Line.assemble(m, 0, "4;5;TAD (6;X"), -2);
        CHECK.due("digest behind a FAULT", m.digest(), before);
        CHECK.due("a later TEXT may put there", Line.assemble(m, 0, "4;5;TAD (6"), 4);
        CHECK.due("its WORD", m.peek(0, 0200), 4);
        CHECK.due("its LITERAL", m.peek(0, 0377), 6);
    }

    private static void whereItComes() {
        Monitor m = Line.opened(3, 1, 1, 4);
        m.poke(1, 0201, 7);
        m.poke(1, 0377, 8);
        CHECK.due("assemble(1)", Line.assemble(m, 1, "5;*202;6"), 2);
        CHECK.due("WORD of 1", m.peek(1, 0200), 5);
        CHECK.due("WORD between stays", m.peek(1, 0201), 7);
        CHECK.due("WORD behind", m.peek(1, 0202), 6);
        CHECK.due("WORD far behind stays", m.peek(1, 0377), 8);
        CHECK.due("WORD of 0", m.peek(0, 0200), 0);
        CHECK.due("WORD of 2", m.peek(2, 0200), 0);
        CHECK.due("assemble(2) of a full memory", Line.assemble(m, 2, "5".concat(";5".repeat(3999))),
                4000);
        CHECK.due("its last WORD", m.peek(2, 0200 + 3999 & 4095), 5);
    }
}
