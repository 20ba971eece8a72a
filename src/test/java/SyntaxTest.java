/** The formula text: what is read, and where the error of what cannot be read stands. */
public final class SyntaxTest {
    private SyntaxTest() {
    }

    public static void main(String[] args) {
        goodTexts();
        wrongBytes();
        textsThatEndTooEarly();
        numbers();
        variablesThatOccurAlready();
        fifthLiterals();
        clausesTooMany();
        longTexts();
        eachByteAtEachPlace();
        Check.finish();
    }

    private static int parse(CnfCompiler x, String text) {
        x.clearText();
        for (int i = 0; i < text.length(); i++) {
            x.append(text.charAt(i));
        }
        return x.parse();
    }

    private static void good(String text, int... sizes) {
        CnfCompiler x = new CnfCompiler();
        Check.due("parse of '" + text + "'", parse(x, text), sizes.length);
        Check.due("clauses of '" + text + "'", x.clauses(), sizes.length);
        for (int i = 0; i < sizes.length; i++) {
            Check.due("size of clause " + i + " of '" + text + "'", x.clauseSize(i), sizes[i]);
        }
    }

    private static void wrong(String text, int position) {
        CnfCompiler x = new CnfCompiler();
        Check.due("parse of '" + text + "'", parse(x, text), -10 - position);
        Check.due("clauses after '" + text + "'", x.clauses(), 0);
        Check.due("no state saved after '" + text + "'", x.undo(), -5);
    }

    private static void goodTexts() {
        good("");
        good(" ");
        good("      ");
        good("1;", 1);
        good("-1;", 1);
        good("10;", 1);
        good("-10;", 1);
        good("  1  ;  ", 1);
        good("1 2 3 4;", 4);
        good("1-2-3-4;", 4);
        good("-1 2-3 4;", 4);
        good("1;2;3;", 1, 1, 1);
        good("1 ; 2 -3 ;4-5 6;", 1, 2, 3);
        good("01;", 1);
        good("-01;", 1);
        good("09 -08;", 2);
        good("10-9;", 2);
        good("1;1;1;", 1, 1, 1);
        good("1;-1;", 1, 1);
        CnfCompiler x = new CnfCompiler();
        Check.due("literals as read", parse(x, "10;-1;02;-09;"), 4);
        Check.due("positive ones", x.implied(1), 512 + 2);
        Check.due("negative ones", x.implied(-1), 256 + 1);
    }

    private static void wrongBytes() {
        wrong(";", 0);
        wrong("  ;", 2);
        wrong("1;;", 2);
        wrong("1; ;", 3);
        wrong("a", 0);
        wrong("1a;", 1);
        wrong("1 a;", 2);
        wrong("1;a", 2);
        wrong("+1;", 0);
        wrong("1,2;", 1);
        wrong("1\t2;", 1);
        wrong("1\n;", 1);
        wrong("\0", 0);
        wrong("1/;", 1);
        wrong("1:;", 1);
        wrong("- 1;", 1);
        wrong("--1;", 1);
        wrong("1 --2;", 3);
        wrong("1-;", 2);
        wrong("-;", 1);
        wrong("-a;", 1);
        wrong("1 2;3 x;4;", 6);
        wrong("\u007f", 0);
    }

    private static void textsThatEndTooEarly() {
        wrong("1", 1);
        wrong("1 ", 2);
        wrong("10", 2);
        wrong("-", 1);
        wrong(" -", 2);
        wrong("1 -", 3);
        wrong("1-", 2);
        wrong("1;2", 3);
        wrong("1;2 3 4 5", 9);
        wrong("1;2 3   ", 8);
        wrong("0", 0);
        wrong("11", 0);
        wrong("1 1", 2);
        wrong("1 -1", 2);
        wrong("123", 2);
    }

    private static void numbers() {
        wrong("0;", 0);
        wrong("00;", 0);
        wrong("-0;", 1);
        wrong("-00;", 1);
        wrong("11;", 0);
        wrong("-11;", 1);
        wrong("99;", 0);
        wrong("1 12;", 2);
        wrong("1 -12;", 3);
        wrong("1-12;", 2);
        wrong("000;", 2);
        wrong("001;", 2);
        wrong("010;", 2);
        wrong("100;", 2);
        wrong("-100;", 3);
        wrong("1000;", 2);
        wrong("1 999;", 4);
        wrong("1-999;", 4);
        wrong("0 1;", 0);
        wrong("0x;", 0);
        wrong("11x;", 0);
        wrong("111x;", 2);
    }

    private static void variablesThatOccurAlready() {
        wrong("1 1;", 2);
        wrong("1 -1;", 2);
        wrong("1-1;", 1);
        wrong("-1 1;", 3);
        wrong("-1-1;", 2);
        wrong("1 01;", 2);
        wrong("1 2 3 2;", 6);
        wrong("1 2 3-2;", 5);
        wrong("10 3 -10;", 5);
        wrong("2;1 2 1;", 6);
        // the number is read before
        wrong("1 11;", 2);
        wrong("1 111;", 4);
        wrong("1 -111;", 5);
        wrong("1 1x;", 2);
    }

    private static void fifthLiterals() {
        wrong("1 2 3 4 5;", 8);
        wrong("1 2 3 4 -5;", 8);
        wrong("1 2 3 4-5;", 7);
        wrong("1 2 3 4   5;", 10);
        // found before the number is read
        wrong("1 2 3 4 1;", 8);
        wrong("1 2 3 4 0;", 8);
        wrong("1 2 3 4 -0;", 8);
        wrong("1 2 3 4 -;", 8);
        wrong("1 2 3 4 -", 8);
        wrong("1 2 3 4 999;", 8);
        wrong("1 2 3 4 x;", 8);
        wrong("1 2 3 10 5;", 9);
        good("1 2 3 4;5 6 7 8;", 4, 4);
    }

    private static CnfCompiler withClauses(int count) {
        CnfCompiler x = new CnfCompiler();
        for (int i = 0; i < count; i++) {
            x.addClause(1, 0, 0, 0);
        }
        return x;
    }

    private static void clausesTooMany() {
        String fifteen = "1;1;1;1;1;1;1;1;1;1;1;1;1;1;1;";
        CnfCompiler x = new CnfCompiler();
        Check.due("16 clauses", parse(x, fifteen + "1 2;"), 16);
        Check.due("clauses()", x.clauses(), 16);
        Check.due("clauseSize(15)", x.clauseSize(15), 2);
        Check.due("no more clauses", parse(x, "  "), 0);
        Check.due("undo()", x.undo(), 1);
        wrong(fifteen + "1;2;", 32);
        wrong(fifteen + "1; -2;", 33);
        wrong(fifteen + "1; ;", 33);
        Check.due("a full formula", parse(withClauses(16), "1;"), -10);
        Check.due("a full formula", parse(withClauses(16), "-1;"), -10);
        // found before the number is read
        Check.due("a full formula", parse(withClauses(16), " 0;"), -11);
        Check.due("a full formula", parse(withClauses(16), " 111;"), -11);
        Check.due("a full formula", parse(withClauses(16), " -"), -11);
        Check.due("a full formula", parse(withClauses(16), " -0"), -11);
        Check.due("a full formula", parse(withClauses(16), ";"), -10);
        Check.due("room for one", parse(withClauses(15), "1 2;"), 1);
        Check.due("room for one", parse(withClauses(15), "1 2;3"), -14);
        Check.due("room for one, an earlier error", parse(withClauses(15), "1 1;3"), -12);
        Check.due("errors of syntax are not counted", withClauses(16).errorCount(-4), 0);
        CnfCompiler full = withClauses(16);
        parse(full, "1;");
        Check.due("a 17th clause is no FULL", full.errorCount(-4), 0);
    }

    private static void longTexts() {
        StringBuilder clause = new StringBuilder("-10 -9 -8 -7;");
        StringBuilder text = new StringBuilder();
        for (int i = 0; i < 11; i++) {
            text.append(clause);
        }
        Check.due("143 bytes", text.length(), 143);
        good(text + "       ", 4, 4, 4, 4, 4, 4, 4, 4, 4, 4, 4);
        good(text + "     1;", 4, 4, 4, 4, 4, 4, 4, 4, 4, 4, 4, 1);
        wrong(text + "      1", 150);
        wrong(text + "      -", 150);
        wrong(text + "      ;", 149);
        StringBuilder spaces = new StringBuilder();
        for (int i = 0; i < 150; i++) {
            spaces.append(' ');
        }
        good(spaces.toString());
    }

    /** Each byte in place of each byte of a text, against the reference. */
    private static void eachByteAtEachPlace() {
        String text = "1 -2;10-3 4 5; 6;";
        for (int place = 0; place < text.length(); place++) {
            for (int value = 0; value < 128; value++) {
                CnfCompiler x = new CnfCompiler();
                Reference due = new Reference();
                for (int i = 0; i < text.length(); i++) {
                    int next = i == place ? value : text.charAt(i);
                    x.append(next);
                    due.append(next);
                }
                Check.due("byte " + value + " at " + place, x.parse(), due.parse());
                Check.due("models, byte " + value + " at " + place, x.models(), due.models());
            }
        }
    }
}
