/** Terms 3 up to the PASSES, sentence by sentence: the edges of what a TEXT is. */
public final class TextEdgesTest {
    private static final Check CHECK = new Check();
    private static final Texts TEXTS = new Texts(CHECK);
    private static final String[] MEMORY = {"AND", "TAD", "ISZ", "DCA", "JMS", "JMP"};
    private static final String[] KNOWN = {
        "CLA", "CLL", "CMA", "CML", "RAR", "RAL", "RTR", "RTL", "IAC", "NOP", "SMA", "SZA", "SPA", "SNA",
        "SNL", "SZL", "SKP", "OSR", "HLT", "CIA", "KSF", "KRB", "TSF", "TLS", "SLP", "RDB", "WRB", "WHO"
    };
    private static final int[] VALUES = {
        07200, 07100, 07040, 07020, 07010, 07004, 07012, 07006, 07001, 07000, 07500, 07440, 07510, 07450,
        07420, 07430, 07410, 07404, 07402, 07041, 06031, 06036, 06041, 06046, 06051, 06052, 06053, 06054
    };

    public static void main(String[] args) {
        lines();
        remarks();
        whatABlankIs();
        blanksBetweenParts();
        noBlanksInside();
        blanksThatMust();
        emptyStatements();
        manyLabels();
        formsOfStatements();
        marksOfLiterals();
        severalExpressions();
        firstOfAName();
        restOfAName();
        lengthOfAName();
        signs();
        digits();
        howManyDigits();
        theDot();
        wordsOfMemory();
        behindMemory();
        iBehindBlanks();
        iWithoutBlanks();
        knownNames();
        toldWithoutValue();
        CHECK.finish();
    }

    private static boolean isLetter(char c) {
        return c >= 'A' && c <= 'Z';
    }

    private static boolean isDigit(char c) {
        return c >= '0' && c <= '9';
    }

    private static boolean isOctal(char c) {
        return c >= '0' && c <= '7';
    }

    private static boolean isBlank(char c) {
        return c == 32 || c == 9;
    }

    private static void lines() {
        CHECK.says("A TEXT has LINES, each ended by byte 10 (the last one perhaps not);");
        TEXTS.words("");
        TEXTS.words("\n");
        TEXTS.words("\n\n\n");
        TEXTS.words("1\n2", 1, 2);
        TEXTS.words("1\n2\n", 1, 2);
        TEXTS.words("\n1\n\n2\n\n", 1, 2);
        TEXTS.faulty("9", 1, 1);
        TEXTS.faulty("9\n", 1, 1);
        TEXTS.faulty("1\n9", 1, 2);
        TEXTS.faulty("1\n9\n2", 1, 2);
        TEXTS.faulty("\n\n\n9\n\n", 1, 4);
        TEXTS.faulty("\n".repeat(7998) + "9\n", 1, 7999);
        TEXTS.faulty("\n".repeat(7999) + "9", 1, 8000);
        TEXTS.words("\n".repeat(7999) + "7", 7);
        TEXTS.faulty("1;1;1;X\n1", 2, 1);
        TEXTS.faulty("1;1;1\n1;X", 2, 2);
    }

    private static void remarks() {
        CHECK.says("from a / on nothing counts in a LINE.");
        TEXTS.words("/");
        TEXTS.words("//");
        TEXTS.words("/\n1", 1);
        TEXTS.words("1/", 1);
        TEXTS.words("1/2", 1);
        TEXTS.words("1/;2\n3", 1, 3);
        TEXTS.words("1;/2\n3", 1, 3);
        TEXTS.words("1//\n/2/\n3", 1, 3);
        TEXTS.faulty("/\n/\n9/", 1, 3);
        TEXTS.faulty("A/,5", 2, 1);
        TEXTS.faulty("*/5", 1, 1);
        TEXTS.faulty("A=/5", 1, 1);
        TEXTS.faulty("TAD /5", 1, 1);
        StringBuilder all = new StringBuilder("1/");
        for (char c = 0; c < 256; c++) {
            all.append(c == 10 ? "" : String.valueOf(c));
        }
        TEXTS.words(all + "\n2", 1, 2);
    }

    private static void whatABlankIs() {
        CHECK.says("BLANKS are bytes 32 and 9;");
        for (char c = 0; c < 256; c++) {
            String text = "1" + c + "2";
            if (isBlank(c)) {
                TEXTS.words(text, 3);
            } else if (c == 10 || c == ';') {
                TEXTS.words(text, 1, 2);
            } else if (c == '/') {
                TEXTS.words(text, 1);
            } else if (c == '+' || c == '-') {
                TEXTS.words(text, c == '+' ? 3 : 07777);
            } else if (isOctal(c)) {
                TEXTS.words(text, 0102 + (c - '0') * 8);
            } else {
                TEXTS.faulty(text, 1, 1);
            }
        }
    }

    private static void blanksBetweenParts() {
        CHECK.says("any of them may stand between two parts of a STATEMENT,");
        String[] some = {"", " ", "\t", " \t\t  "};
        for (String b : some) {
            TEXTS.words(b + "A," + b + "B," + b + "5" + b, 5);
            TEXTS.words(b + "A," + b + ";5", 5);
            TEXTS.wordAt(b + "*" + b + "300" + b + ";" + b + "5" + b, 1, 0300, 5);
            TEXTS.wordAt("A," + b + "*" + b + "300;5", 1, 0300, 5);
            TEXTS.words(b + "A=" + b + "5" + b + "\nA", 5);
            TEXTS.words("B," + b + "A=" + b + "5/\nA", 5);
            TEXTS.words("A," + b + "TAD " + b + "5" + b, 01005);
            TEXTS.words("TAD" + b + "." + b, 01200);
            TEXTS.words("TAD " + b + "I " + b + "5" + b, 01405);
            TEXTS.words("TAD " + b + "I" + b + ".", 01600);
            TEXTS.wordAt("TAD" + b + "(" + b + "5" + b, 2, 0377, 5);
            TEXTS.wordAt("TAD" + b + "(" + b + "5" + b + ")" + b, 2, 0377, 5);
            TEXTS.wordAt("TAD " + b + "I" + b + "(" + b + "-5" + b + ")", 2, 0377, 07773);
            TEXTS.words("1 " + b + "2" + b, 3);
        }
    }

    private static void noBlanksInside() {
        CHECK.says("but not in an EXPRESSION, nor between a NAME and its , or = ;");
        String[] blanks = {" ", "\t"};
        for (String b : blanks) {
            TEXTS.faulty("1" + b + "+2", 1, 1);
            TEXTS.faulty("1+" + b + "2", 1, 1);
            TEXTS.faulty("1-" + b + "2", 1, 1);
            TEXTS.faulty("-" + b + "2", 1, 1);
            TEXTS.faulty("*1+" + b + "2", 1, 1);
            TEXTS.faulty("*1" + b + "+2", 1, 1);
            TEXTS.faulty("*1" + b + "-2", 1, 1);
            TEXTS.faulty("*-" + b + "2", 1, 1);
            TEXTS.faulty("A=1" + b + "+2", 1, 1);
            TEXTS.faulty("A=1" + b + "-2", 1, 1);
            TEXTS.faulty("A=-" + b + "2", 1, 1);
            TEXTS.faulty("TAD 1" + b + "+2", 1, 1);
            TEXTS.faulty("TAD 1" + b + "-2", 1, 1);
            TEXTS.faulty("TAD -" + b + "2", 1, 1);
            TEXTS.faulty("TAD (1" + b + "+2", 1, 1);
            TEXTS.faulty("TAD (1" + b + "-2)", 1, 1);
            TEXTS.faulty("A" + b + ",", 1, 1);
            TEXTS.faulty("A" + b + ",5", 1, 1);
            TEXTS.faulty("A,B" + b + ",5", 1, 1);
            TEXTS.faulty("A" + b + "=5", 1, 1);
            TEXTS.faulty("A" + b + "= 5", 1, 1);
        }
        // two EXPRESSIONS, for a - may begin one
        TEXTS.words("1 -2", 07777);
    }

    private static void blanksThatMust() {
        CHECK.says("between two EXPRESSIONS, and where a NAME or number would run into what follows, they must.");
        TEXTS.faulty("..", 1, 1);
        TEXTS.words(". .", 0200);
        TEXTS.faulty("1.", 1, 1);
        TEXTS.words("1 .", 0201);
        TEXTS.faulty(".1", 1, 1);
        TEXTS.words(". 1", 0201);
        TEXTS.faulty("CLA.", 1, 1);
        TEXTS.faulty(".CLA", 1, 1);
        TEXTS.faulty("1CLA", 1, 1);
        TEXTS.words("1 CLA", 07201);
        // run together, these are one NAME, and no other than that
        TEXTS.faulty("CLA1", 2, 1);
        TEXTS.words("CLA 1", 07201);
        TEXTS.faulty("CLACLL", 2, 1);
        TEXTS.words("CLA CLL", 07300);
        TEXTS.faulty("TAD5", 2, 1);
        TEXTS.words("TAD 5", 01005);
        TEXTS.faulty("TADI 5", 2, 1);
        TEXTS.faulty("TAD I5", 2, 1);
        TEXTS.words("TAD I 5", 01405);
        TEXTS.words("TADI=6;TADI", 6);
        TEXTS.words("I5=6;TAD I5", 01006);
        TEXTS.words("I5=6;TAD I I5", 01406);
        // a . is no part of a NAME, so nothing runs into it
        TEXTS.words("TAD.", 01200);
        TEXTS.words("TAD I.", 01600);
    }

    private static void emptyStatements() {
        CHECK.says("A LINE is STATEMENTS with ; between.");
        TEXTS.words(";");
        TEXTS.words(";;;;");
        TEXTS.words(";1", 1);
        TEXTS.words("1;", 1);
        TEXTS.words(";;1;;2;;", 1, 2);
        TEXTS.words(" ;\t; 1 ; ;", 1);
        TEXTS.words("1;2\n;3;4", 1, 2, 3, 4);
        TEXTS.faulty("1,2", 1, 1);
        TEXTS.faulty("1:2", 1, 1);
    }

    private static void manyLabels() {
        CHECK.says("A STATEMENT: any LABELS (a NAME, and , ), and behind them nothing,");
        TEXTS.words("A,");
        TEXTS.words("A,;A", 0200);
        TEXTS.words("A,B,C,\nA;B;C", 0200, 0200, 0200);
        StringBuilder labels = new StringBuilder();
        for (int i = 0; i < 200; i++) {
            labels.append('N').append(i).append(',');
        }
        TEXTS.words(labels.toString());
        TEXTS.words(labels + "5; N0; N199", 5, 0200, 0200);
        TEXTS.faulty(labels + ",5", 1, 1);
        TEXTS.faulty(labels + "N1 ,5", 1, 1);
        TEXTS.faulty(",", 1, 1);
        TEXTS.faulty("A,,", 1, 1);
        TEXTS.faulty("5,", 1, 1);
        TEXTS.faulty(".,", 1, 1);
        TEXTS.faulty("A+1,", 1, 1);
        TEXTS.faulty("5 A,", 1, 1);
    }

    private static void formsOfStatements() {
        CHECK.says("or one of: * EXPRESSION; NAME = EXPRESSION; MEMORY, perhaps I, and an EXPRESSION,");
        TEXTS.faulty("*", 1, 1);
        TEXTS.wordAt("*0;5", 1, 0, 5);
        TEXTS.faulty("*1 2", 1, 1);
        TEXTS.faulty("*(5", 1, 1);
        TEXTS.faulty("**5", 1, 1);
        TEXTS.faulty("*A=5", 1, 1);
        TEXTS.faulty("*200 TAD 5", 1, 1);
        TEXTS.faulty("5*5", 1, 1);
        TEXTS.faulty("A=", 1, 1);
        TEXTS.faulty("=5", 1, 1);
        TEXTS.faulty("5=5", 1, 1);
        TEXTS.faulty("A=1 2", 1, 1);
        TEXTS.faulty("A=B=5", 1, 1);
        TEXTS.faulty("A==5", 1, 1);
        TEXTS.faulty("A=(5", 1, 1);
        TEXTS.faulty("A=*5", 1, 1);
        TEXTS.faulty("A=B,5", 1, 1);
        TEXTS.faulty("TAD", 1, 1);
        TEXTS.faulty("TAD ", 1, 1);
        TEXTS.faulty("A,TAD;5", 1, 1);
        TEXTS.faulty("TAD 5 6", 1, 1);
        TEXTS.faulty("TAD I 5 6", 1, 1);
        TEXTS.faulty("TAD *5", 1, 1);
        TEXTS.faulty("TAD A=5", 1, 1);
        TEXTS.faulty("TAD A,5", 1, 1);
        TEXTS.faulty("TAD TAD 5", 1, 1);
    }

    private static void marksOfLiterals() {
        CHECK.says("or ( , EXPRESSION, perhaps ) ;");
        TEXTS.wordAt("TAD (5", 2, 0377, 5);
        TEXTS.wordAt("TAD (5)", 2, 0377, 5);
        TEXTS.wordAt("TAD I (5)", 2, 0200, 01777);
        TEXTS.faulty("TAD (", 1, 1);
        TEXTS.faulty("TAD ()", 1, 1);
        TEXTS.faulty("TAD 5)", 1, 1);
        TEXTS.faulty("TAD )", 1, 1);
        TEXTS.faulty("TAD (5))", 1, 1);
        TEXTS.faulty("TAD ((5)", 1, 1);
        TEXTS.faulty("TAD (5 6", 1, 1);
        TEXTS.faulty("TAD (5) 6", 1, 1);
        TEXTS.faulty("TAD (5)+1", 1, 1);
        TEXTS.faulty("TAD 1+(5)", 1, 1);
        TEXTS.faulty("TAD -(5)", 1, 1);
        TEXTS.faulty("TAD 1 (5)", 1, 1);
        TEXTS.faulty("TAD (I 5", 1, 1);
        TEXTS.faulty("(5", 1, 1);
        TEXTS.faulty("(5)", 1, 1);
        TEXTS.faulty("CLA (5", 1, 1);
        TEXTS.faulty("CLA )", 1, 1);
    }

    private static void severalExpressions() {
        CHECK.says("one or more EXPRESSIONS.");
        TEXTS.words("1", 1);
        TEXTS.words("1 2", 3);
        TEXTS.words("1 " + "0 ".repeat(1000) + "2", 3);
        TEXTS.words("1 2 4 10 20 40 100 200 400 1000 2000 4000", 07777);
        TEXTS.words("1+1 2+2 -1-1", 07776);
        TEXTS.faulty("1 *", 1, 1);
        TEXTS.faulty("1 A=5", 1, 1);
        TEXTS.faulty("1 A,5", 1, 1);
        TEXTS.faulty("1 (5", 1, 1);
        TEXTS.faulty("1 2 3 +", 1, 1);
        TEXTS.faulty("1 2 3 -", 1, 1);
    }

    private static void firstOfAName() {
        CHECK.says("A NAME: a letter A .. Z,");
        for (char c = 0; c < 256; c++) {
            String text = c + ",5";
            if (c == 'I') {
                TEXTS.faulty(text, 3, 1);
            } else if (isLetter(c)) {
                TEXTS.words(text + ";" + c, 5, 0200);
                TEXTS.words(c + "=5;" + c, 5);
            } else if (c == '/') {
                TEXTS.words(text);
            } else {
                TEXTS.faulty(text, 1, c == 10 ? 2 : 1);
                TEXTS.faulty(c + "=5", 1, c == 10 ? 2 : 1);
            }
        }
    }

    private static void restOfAName() {
        CHECK.says("then letters and digits,");
        for (char c = 0; c < 256; c++) {
            String text = "B" + c + ",5";
            if (isLetter(c) || isDigit(c)) {
                TEXTS.words(text + ";B" + c, 5, 0200);
                TEXTS.words("B" + c + "=5;B" + c, 5);
            } else if (c == '/') {
                TEXTS.faulty(text, 2, 1);
            } else {
                TEXTS.faulty(text, 1, c == 10 ? 2 : 1);
            }
        }
        TEXTS.words("A9=5;A98765=6;A9;A98765", 5, 6);
    }

    private static void lengthOfAName() {
        CHECK.says("6 in all at most.");
        String[] good = {"B", "BC", "BCDEF", "BCDEFG", "Z00000", "TADTAD"};
        for (String name : good) {
            TEXTS.words(name + ",5;" + name, 5, 0200);
            TEXTS.words(name + "=5;" + name, 5);
            TEXTS.words(name + "=5;TAD " + name, 01005);
        }
        String[] bad = {"BCDEFGH", "Z000000", "TADTADT", "A" + "B".repeat(300)};
        for (String name : bad) {
            TEXTS.faulty(name + ",5", 1, 1);
            TEXTS.faulty(name + "=5", 1, 1);
            TEXTS.faulty(name, 1, 1);
            TEXTS.faulty("TAD " + name, 1, 1);
            TEXTS.faulty("*" + name, 1, 1);
            TEXTS.faulty("1+" + name, 1, 1);
        }
        // all six count, and none is taken for another
        TEXTS.words("BCDEFG=1;BCDEFH=2;BCDEF=3;CBDEFG=4;BCDEFG;BCDEFH;BCDEF;CBDEFG", 1, 2, 3, 4);
        TEXTS.words("B0=1;B00=2;B=3;B;B0;B00", 3, 1, 2);
    }

    private static void signs() {
        CHECK.says("EXPRESSION: perhaps - , then TERMS with + or - between.");
        TEXTS.words("-1", 07777);
        TEXTS.words("-0", 0);
        TEXTS.words("-7777", 1);
        TEXTS.words("-1-1", 07776);
        TEXTS.words("-1+1", 0);
        TEXTS.words("1-1-1", 07777);
        TEXTS.words("7777+1", 0);
        TEXTS.words("7777+7777", 07776);
        TEXTS.words("0-1", 07777);
        TEXTS.words("1" + "+1".repeat(2000), 2001);
        TEXTS.words("0" + "-1".repeat(2000), 4096 - 2000);
        TEXTS.words("1" + "+7777".repeat(1500), 4096 + 1 - 1500);
        String[] bad = {"-", "+", "+1", "--1", "1--1", "1++1", "1+-1", "1-+1", "1+", "1-", "-+1", "1+1+", "-1-"};
        for (String text : bad) {
            TEXTS.faulty(text, 1, 1);
            TEXTS.faulty("TAD " + text, 1, 1);
            TEXTS.faulty("TAD (" + text, 1, 1);
            TEXTS.faulty("*" + text, 1, 1);
            TEXTS.faulty("A=" + text, 1, 1);
        }
    }

    private static void digits() {
        CHECK.says("TERM: one to four digits 0 .. 7, octal;");
        for (char c = '0'; c <= '9'; c++) {
            if (isOctal(c)) {
                TEXTS.words(String.valueOf(c), c - '0');
                TEXTS.words("1" + c, 8 + c - '0');
                TEXTS.words(c + "000", (c - '0') * 512);
            } else {
                TEXTS.faulty(String.valueOf(c), 1, 1);
                TEXTS.faulty("1" + c, 1, 1);
                TEXTS.faulty(c + "1", 1, 1);
                TEXTS.faulty("123" + c, 1, 1);
            }
        }
    }

    private static void howManyDigits() {
        CHECK.says("one to four digits 0 .. 7,");
        TEXTS.words("7;77;777;7777", 7, 077, 0777, 07777);
        TEXTS.words("0;00;000;0000;0001", 0, 0, 0, 0, 1);
        TEXTS.faulty("00000", 1, 1);
        TEXTS.faulty("00001", 1, 1);
        TEXTS.faulty("12345", 1, 1);
        TEXTS.faulty("1+77777", 1, 1);
        TEXTS.faulty("TAD 00005", 1, 1);
        TEXTS.faulty("*00200", 1, 1);
        TEXTS.faulty("0".repeat(500), 1, 1);
    }

    private static void theDot() {
        CHECK.says("a NAME; . (the address of the WORD that comes next).");
        TEXTS.words(".;.;.", 0200, 0201, 0202);
        TEXTS.words(".+.;-.", 0400, 07577);
        TEXTS.words("A, .-A", 0);
        TEXTS.words("A=.;5;B=.;A;B", 5, 0200, 0201);
        TEXTS.wordAt("*.+100;.", 1, 0300, 0300);
        TEXTS.wordAt("*7777;.;.", 2, 07777, 07777);
        TEXTS.wordAt("*7777;.;.", 2, 0, 0);
        TEXTS.wordAt("*0;.-1", 1, 0, 07777);
        TEXTS.wordAt("5;TAD (.", 3, 0377, 0201);
        TEXTS.words("A,\n.\nA", 0200, 0200);
    }

    private static void wordsOfMemory() {
        CHECK.says("MEMORY: AND TAD ISZ DCA JMS JMP.");
        CHECK.says("MEMORY: its number (0 to 5) times 512,");
        for (int i = 0; i < MEMORY.length; i++) {
            TEXTS.words(MEMORY[i] + " 0", i * 512);
            TEXTS.words(MEMORY[i] + " 177", i * 512 + 0177);
            TEXTS.words(MEMORY[i] + " I 377", i * 512 + 0777);
            TEXTS.faulty(MEMORY[i], 1, 1);
        }
        TEXTS.faulty("OPR 5", 2, 1);
        TEXTS.faulty("IOT 5", 2, 1);
    }

    private static void behindMemory() {
        CHECK.says("What begins with one of MEMORY's words is that;");
        for (char c = 0; c < 256; c++) {
            String text = "TAD" + c + "7";
            if (isLetter(c) || isDigit(c)) {
                TEXTS.faulty(text, 2, 1);
            } else if (isBlank(c)) {
                TEXTS.words(text, 01007);
            } else if (c == '-') {
                TEXTS.faulty(text, 4, 1);
            } else if (c == '(') {
                TEXTS.wordAt(text, 2, 0377, 7);
            } else if (c == ',' || c == '=') {
                TEXTS.faulty(text, 3, 1);
            } else {
                TEXTS.faulty(text, 1, 1);
            }
        }
        // not where something else stands ahead of it
        TEXTS.faulty("1 TAD 5", 2, 1);
        TEXTS.faulty("-TAD", 2, 1);
        TEXTS.words("A, TAD 5", 01005);
        TEXTS.words("A, B, TAD 5", 01005);
    }

    private static void iBehindBlanks() {
        CHECK.says("I behind it is that, if (BLANKS aside) a letter, a digit, . - or ( follows it, else it is a NAME.");
        for (char c = 0; c < 256; c++) {
            String text = "TAD I " + c + "7";
            if (isLetter(c) || c == '/' || c == ';' || c == 10) {
                TEXTS.faulty(text, 2, 1);
            } else if (isOctal(c)) {
                TEXTS.words(text, 01407 + (c - '0') * 8);
            } else if (isBlank(c)) {
                TEXTS.words(text, 01407);
            } else if (c == '-') {
                TEXTS.faulty(text, 4, 1);
            } else if (c == '(') {
                TEXTS.wordAt(text, 2, 0200, 01777);
            } else {
                TEXTS.faulty(text, 1, 1);
            }
        }
        TEXTS.words("TAD I .", 01600);
        TEXTS.words("TAD I\t.", 01600);
        TEXTS.words("TAD I   -7771", 01407);
        TEXTS.words("TAD I \t 7", 01407);
        // of two, the first is that and the second a NAME
        TEXTS.faulty("TAD I I", 2, 1);
        TEXTS.faulty("TAD I I 7", 1, 1);
        TEXTS.faulty("TAD I", 2, 1);
        TEXTS.faulty("TAD I ", 2, 1);
        // only behind a word of MEMORY
        TEXTS.faulty("CLA I 7", 2, 1);
        TEXTS.faulty("I 7", 2, 1);
        TEXTS.faulty("TAD 7 I", 1, 1);
        TEXTS.faulty("TAD 7+I", 2, 1);
    }

    private static void iWithoutBlanks() {
        CHECK.says("I behind it is that, if (BLANKS aside) a letter, a digit, . - or ( follows it, else it is a NAME.");
        for (char c = 0; c < 256; c++) {
            String text = "TAD I" + c + "7";
            if (isLetter(c) || isDigit(c) || c == '+' || c == '/' || c == ';' || c == 10) {
                TEXTS.faulty(text, 2, 1);
            } else if (isBlank(c)) {
                TEXTS.words(text, 01407);
            } else if (c == '-') {
                TEXTS.faulty(text, 4, 1);
            } else if (c == '(') {
                TEXTS.wordAt(text, 2, 0200, 01777);
            } else {
                TEXTS.faulty(text, 1, 1);
            }
        }
        TEXTS.words("TAD I.", 01600);
        TEXTS.words("TAD I.+1", 01601);
        TEXTS.words("TAD I-7771", 01407);
    }

    private static void knownNames() {
        CHECK.says("NAMES known at first: CLA 07200 CLL 07100 CMA 07040 CML 07020 RAR 07010 RAL 07004 RTR 07012 "
                + "RTL 07006 IAC 07001 NOP 07000 SMA 07500 SZA 07440 SPA 07510 SNA 07450 SNL 07420 SZL 07430 "
                + "SKP 07410 OSR 07404 HLT 07402 CIA 07041 KSF KRB TSF TLS SLP RDB WRB WHO (as in 1).");
        for (int i = 0; i < KNOWN.length; i++) {
            TEXTS.words(KNOWN[i], VALUES[i]);
            TEXTS.words("A=" + KNOWN[i] + "+1;A", VALUES[i] + 1);
            TEXTS.faulty(KNOWN[i] + ",", 3, 1);
            TEXTS.faulty(KNOWN[i] + "=" + Integer.toOctalString(VALUES[i]), 3, 1);
        }
        TEXTS.wordAt("*CLA;5", 1, 07200, 5);
        TEXTS.faulty("cla", 1, 1);
        TEXTS.faulty("CL", 2, 1);
    }

    private static void toldWithoutValue() {
        CHECK.says("MEMORY's words and I are told, too, but have no value.");
        String[] words = {"AND", "TAD", "ISZ", "DCA", "JMS", "JMP", "I"};
        for (String word : words) {
            TEXTS.faulty(word + ",5", 3, 1);
            TEXTS.faulty(word + "=5", 3, 1);
            TEXTS.faulty("A," + word + ",5", 3, 1);
            TEXTS.faulty("*" + word, 2, 1);
            TEXTS.faulty("A=" + word, 2, 1);
            TEXTS.faulty("1 " + word, 2, 1);
            TEXTS.faulty("TAD " + word, 2, 1);
            TEXTS.faulty("TAD (" + word, 2, 1);
        }
        TEXTS.faulty("I", 2, 1);
    }
}
