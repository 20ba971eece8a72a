/** The description's sentences on the formula text, one by one. */
public final class TextSentencesTest {
    private TextSentencesTest() {
    }

    public static void main(String[] args) {
        Check.all(TextSentencesTest::atMost150Bytes, TextSentencesTest::clausesEndWithASemicolon,
                TextSentencesTest::oneToFourLiterals, TextSentencesTest::numbersAndSigns, TextSentencesTest::spaces,
                TextSentencesTest::requiredSpaces, TextSentencesTest::noClauses,
                TextSentencesTest::firstByteThatCannotStand, TextSentencesTest::eachByteAfterEachBeginning,
                TextSentencesTest::textsThatEndTooEarly, TextSentencesTest::threeDigits,
                TextSentencesTest::rangeOfShortNumbersOnly, TextSentencesTest::zeroAndGreaterThanTen,
                TextSentencesTest::variableOccursAlready, TextSentencesTest::fifthLiteral,
                TextSentencesTest::seventeenthClause, TextSentencesTest::foundBeforeTheNumber,
                TextSentencesTest::foundAfterTheNumber);
        Check.finish();
    }

    private static void read(String text, int... sizes) {
        CnfCompiler x = new CnfCompiler();
        Check.due("parse of '" + text + "'", Make.parse(x, text), sizes.length);
        Check.due("clauses of '" + text + "'", x.clauses(), sizes.length);
        for (int i = 0; i < sizes.length; i++) {
            Check.due("size of clause " + i + " of '" + text + "'", x.clauseSize(i), sizes[i]);
        }
    }

    private static void wrong(String text, int position) {
        wrong(0, text, position);
    }

    /** The text is wrong where the formula has a number of clauses already. */
    private static void wrong(int clausesBefore, String text, int position) {
        CnfCompiler x = Make.withEqualClauses(clausesBefore);
        Check.due("parse of '" + text + "'", Make.parse(x, text), -10 - position);
        Check.due("clauses after '" + text + "'", x.clauses(), clausesBefore);
    }

    private static void atMost150Bytes() {
        Check.sentence(0, "The text has at most 150 bytes.");
        CnfCompiler x = new CnfCompiler();
        String text = " ".repeat(147) + "10;";
        for (int i = 0; i < 150; i++) {
            Check.due("append", x.append(text.charAt(i)), i + 1);
        }
        Check.due("the 151st byte", x.append('x'), -4);
        Check.due("and again", x.append('x'), -4);
        Check.due("all 150 are read, no more", x.parse(), 1);
        Check.due("the clause of the last bytes", x.implied(1), 512);
        Check.due("clearText()", x.clearText(), 150);
        Check.due("room again", x.append('1'), 1);
        wrong(" ".repeat(149) + ";", 149);
        wrong(" ".repeat(149) + "1", 150);
    }

    private static void clausesEndWithASemicolon() {
        Check.sentence(0, "It is a sequence of clauses, each terminated by a semicolon");
        read("1;", 1);
        read("1;2;", 1, 1);
        read("1 2;-3;4-5-6;", 2, 1, 3);
        wrong("1", 1);
        wrong("1;2", 3);
        wrong("1 2;-3;4-5-6", 12);
        wrong("1,", 1);
        wrong("1:", 1);
    }

    private static void oneToFourLiterals() {
        Check.sentence(0, "a clause is a sequence of 1 to 4 literals");
        read("1;", 1);
        read("1 2;", 2);
        read("1 2 3;", 3);
        read("1 2 3 4;", 4);
        wrong(";", 0);
        wrong("1;;", 2);
        wrong("1; ;", 3);
        wrong("1 2 3 4 5;", 8);
    }

    private static void numbersAndSigns() {
        Check.sentence(0, "a literal is a number of 1 or 2 digits with the value 1 to 10, with or without a minus sign"
                + " directly in front of it.");
        for (int v = 1; v <= 10; v++) {
            CnfCompiler x = new CnfCompiler();
            Check.due("parse of " + v, Make.parse(x, v + ";"), 1);
            Check.due("implied(1) by " + v, x.implied(1), 1 << (v - 1));
            CnfCompiler y = new CnfCompiler();
            Check.due("parse of -" + v, Make.parse(y, "-" + v + ";"), 1);
            Check.due("implied(-1) by -" + v, y.implied(-1), 1 << (v - 1));
        }
        // two digits with a value of 1 to 9 are two digits with a value in the range
        CnfCompiler zero = new CnfCompiler();
        Check.due("parse of 01 -09", Make.parse(zero, "01;-09;"), 2);
        Check.due("01", zero.implied(1), 1);
        Check.due("-09", zero.implied(-1), 256);
        wrong("-;", 1);
        wrong("- 1;", 1);
        wrong("--1;", 1);
        wrong("+1;", 0);
        wrong("1-;", 2);
        wrong("1- 2;", 2);
    }

    private static void spaces() {
        Check.sentence(0, "Spaces (byte 32) may stand anywhere except inside a literal");
        read(" 1;", 1);
        read("1 ;", 1);
        read("1; ", 1);
        read("   1   -2   3   ;   4   ;   ", 3, 1);
        read("1 -2;", 2);
        wrong("- 1;", 1);
        wrong("-  1;", 1);
        // a space ends the number: 1, then 0
        wrong("1 0;", 2);
        for (int other : new int[] {0, 9, 10, 11, 12, 13, 31, 33, 127}) {
            wrong((char) other + "1;", 0);
            wrong("1" + (char) other + "2;", 1);
            wrong("1;" + (char) other, 2);
        }
    }

    private static void requiredSpaces() {
        Check.sentence(0, "they are required only between two literals of which the second has no minus sign.");
        read("1-2-3-4;", 4);
        read("-1-2;-3-4;", 2, 2);
        read("10-9;", 2);
        read("1;2;-3;", 1, 1, 1);
        read("1 2;", 2);
        wrong("12;", 0);
        wrong("-12;", 1);
        wrong("102;", 2);
        // without the space 1 and 0 are the number 10
        read("10;", 1);
    }

    private static void noClauses() {
        Check.sentence(0, "The text may have no clauses.");
        read("");
        read(" ");
        read(" ".repeat(150));
        CnfCompiler full = Make.withEqualClauses(16);
        Check.due("an empty text and a full formula", Make.parse(full, ""), 0);
        Check.due("spaces and a full formula", Make.parse(full, "  "), 0);
        Check.due("clauses()", full.clauses(), 16);
    }

    private static void firstByteThatCannotStand() {
        Check.sentence(0, "The syntax error position is the index of the first byte that cannot stand where it stands");
        wrong("x", 0);
        wrong("1x;", 1);
        wrong("1 2;3 x;4;", 6);
        wrong("1;2;3;4;5;x", 10);
        wrong("xx;x", 0);
        wrong("1 1;0;", 2);
        wrong("0;1 1;", 0);
        wrong("1 2 3 4 5;x", 8);
        wrong("1;x;1 1;", 2);
        wrong(" ".repeat(149) + "x", 149);
    }

    /** What the reference answers for each byte that follows a good beginning. */
    private static void eachByteAfterEachBeginning() {
        Check.sentence(0, "the first byte that cannot stand where it stands");
        String[] beginnings = {"", " ", "-", "1", "10", "1 ", "-1", "1;", "1; ", "1 -", "0", "1 2 3 4", "1 2 3 4 "};
        for (String beginning : beginnings) {
            for (int value = 0; value < 128; value++) {
                String text = beginning + (char) value + ";";
                CnfCompiler x = new CnfCompiler();
                Reference due = new Reference();
                for (int i = 0; i < text.length(); i++) {
                    due.append(text.charAt(i));
                }
                Check.due("byte " + value + " after '" + beginning + "'", Make.parse(x, text), due.parse());
            }
        }
    }

    private static void textsThatEndTooEarly() {
        Check.sentence(0, "or the length of the text if the text ends too early.");
        wrong("1", 1);
        wrong("10", 2);
        wrong("-", 1);
        wrong("-1", 2);
        wrong("1 ", 2);
        wrong("1   ", 4);
        wrong("1-", 2);
        wrong("1 2 3 4", 7);
        wrong("1 2 3 4 ", 8);
        wrong("1;2;-", 5);
        wrong(" ".repeat(149) + "-", 150);
        wrong("1" + " ".repeat(149), 150);
        wrong(15, "1 2", 3);
    }

    private static void threeDigits() {
        Check.sentence(0, "A number with three or more digits has its error at the third digit, whatever its value");
        wrong("100;", 2);
        wrong("001;", 2);
        wrong("010;", 2);
        wrong("000;", 2);
        wrong("999;", 2);
        wrong("-100;", 3);
        wrong("-005;", 3);
        wrong("1000;", 2);
        wrong("1234567890;", 2);
        wrong("2 001;", 4);
        wrong("2-001;", 4);
        wrong("123", 2);
        wrong("123x", 2);
        wrong(" ".repeat(147) + "100", 149);
    }

    private static void rangeOfShortNumbersOnly() {
        Check.sentence(0, "the range of a number is checked only if it has one or two digits.");
        wrong("0;", 0);
        wrong("00;", 0);
        wrong("000;", 2);
        wrong("11;", 0);
        wrong("110;", 2);
        wrong("99;", 0);
        wrong("990;", 2);
        wrong("-11;", 1);
        wrong("-110;", 3);
        wrong("11", 0);
        wrong("0", 0);
        wrong("0x", 0);
        wrong("11x", 0);
    }

    private static void zeroAndGreaterThanTen() {
        Check.sentence(0, "the first digit of a number that is 0 or greater than 10");
        wrong("0;", 0);
        wrong("00;", 0);
        wrong("-0;", 1);
        wrong("-00;", 1);
        for (int number = 11; number <= 99; number++) {
            wrong(number + ";", 0);
            wrong("-" + number + ";", 1);
            wrong("1 " + number + ";", 2);
            wrong("1-" + number + ";", 2);
        }
        read("10;", 1);
        read("9;", 1);
    }

    private static void variableOccursAlready() {
        Check.sentence(0, "the first byte (the minus sign, if there is one) of a literal whose variable occurs in the"
                + " clause already");
        wrong("3 3;", 2);
        wrong("3 -3;", 2);
        wrong("3-3;", 1);
        wrong("-3 3;", 3);
        wrong("-3 -3;", 3);
        wrong("-3-3;", 2);
        wrong("10 10;", 3);
        wrong("1 01;", 2);
        wrong("1 2 3 1;", 6);
        wrong("1 2 3 2;", 6);
        wrong("1 2 3 3;", 6);
        wrong("1 2 3 -3", 6);
        wrong("1 1", 2);
        // another clause may have it
        read("3;3;-3;", 1, 1, 1);
        read("3 4;4 3;", 2, 2);
    }

    private static void fifthLiteral() {
        Check.sentence(0, "of a fifth literal of a clause");
        wrong("1 2 3 4 5;", 8);
        wrong("1 2 3 4 -5;", 8);
        wrong("1 2 3 4-5;", 7);
        wrong("-1-2-3-4-5;", 8);
        wrong("1 2 3 4     5;", 12);
        wrong("9;1 2 3 4 5;", 10);
        read("1 2 3 4;5 6 7 8;", 4, 4);
    }

    private static void seventeenthClause() {
        Check.sentence(0, "and of the first literal of a 17th clause of the formula.");
        wrong("1;".repeat(16) + "2;", 32);
        wrong("1;".repeat(16) + "-2;", 32);
        wrong("1;".repeat(16) + "  -2;", 34);
        wrong("1;".repeat(16) + "2 3 4;", 32);
        for (int before = 0; before <= 16; before++) {
            int room = 16 - before;
            wrong(before, "1;".repeat(room) + "2;", 2 * room);
            CnfCompiler x = Make.withEqualClauses(before);
            Check.due("room for " + room, Make.parse(x, "1;".repeat(room) + " "), room);
            Check.due("clauses()", x.clauses(), 16);
        }
        // the assumptions are no clauses
        Check.due("16 beside assumptions", Make.parse(Make.assuming(new CnfCompiler(), 1, 2), "1;".repeat(16)), 16);
        // a semicolon alone is no first literal, but cannot stand there either
        wrong(16, ";", 0);
        wrong(16, " ;", 1);
        wrong(16, " x", 1);
    }

    private static void foundBeforeTheNumber() {
        Check.sentence(0, "That a literal is the fifth one or belongs to a 17th clause is found before its number is"
                + " read");
        for (String number : new String[] {"0", "00", "11", "100", "000", "1", "5", "x"}) {
            wrong("1 2 3 4 " + number + ";", 8);
            wrong(16, number + ";", 0);
            if (!number.equals("x")) {
                wrong("1 2 3 4 -" + number + ";", 8);
                wrong("1 2 3 4-" + number + ";", 7);
                wrong(16, " -" + number + ";", 1);
            }
        }
        wrong("1 2 3 4 -", 8);
        wrong("1 2 3 4 -;", 8);
        wrong("1 2 3 4 -x", 8);
        wrong("1 2 3 4 --", 8);
        wrong(16, "-", 0);
        wrong(16, "-;", 0);
        wrong(16, "- 1;", 0);
        wrong(15, "1;-", 2);
    }

    private static void foundAfterTheNumber() {
        Check.sentence(0, "that its variable occurs already is found after its number has been read and found to be in"
                + " its range.");
        // three digits that begin with a variable of the clause
        wrong("1 111;", 4);
        wrong("1 -111;", 5);
        wrong("10 100;", 5);
        wrong("10 -101;", 6);
        // two digits out of the range that begin with one
        wrong("1 11;", 2);
        wrong("1 -11;", 3);
        wrong("2 -20;", 3);
        wrong("1 -0;", 3);
        // 10 is not 1
        read("1 10;", 2);
        read("10 1;", 2);
        read("1-10;", 2);
        // found though what follows the number is wrong as well
        wrong("1 1x", 2);
        wrong("1 -1x", 2);
        wrong("10-10-", 2);
    }
}
