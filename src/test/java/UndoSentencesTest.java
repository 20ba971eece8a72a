import java.math.BigInteger;
import java.util.ArrayList;
import java.util.Arrays;
import java.util.List;

/** The sentences of promises 22 to 27, one by one: the text, undo, the counters and the digest. */
public final class UndoSentencesTest {
    private UndoSentencesTest() {
    }

    public static void main(String[] args) {
        Check.all(UndoSentencesTest::appendAdds, UndoSentencesTest::appendBytes, UndoSentencesTest::appendLength,
                UndoSentencesTest::appendRange, UndoSentencesTest::appendRangeFirst, UndoSentencesTest::appendFull,
                UndoSentencesTest::clearTextEmpties, UndoSentencesTest::clearTextLength,
                UndoSentencesTest::parseAppends, UndoSentencesTest::parseLeavesTheText,
                UndoSentencesTest::parseIsOneState, UndoSentencesTest::parseCount,
                UndoSentencesTest::parseErrorPosition, UndoSentencesTest::parseErrorChangesNothing,
                UndoSentencesTest::undoRestores, UndoSentencesTest::undoRemaining,
                UndoSentencesTest::undoNothingSaved, UndoSentencesTest::errorCountCounts,
                UndoSentencesTest::errorCountOfExplanation, UndoSentencesTest::errorCountRange,
                UndoSentencesTest::errorCountCountsItself, UndoSentencesTest::digestOfCounters,
                UndoSentencesTest::digestOfEachPart, UndoSentencesTest::digestOfSizes,
                UndoSentencesTest::digestOfWeights, UndoSentencesTest::digestOfSavedStates,
                UndoSentencesTest::digestOverflow);
        Check.finish();
    }

    private static int[] c(int... literals) {
        return literals;
    }

    // ---- the text

    private static void appendAdds() {
        Check.sentence(22, "Appends a byte to the formula text.");
        CnfCompiler x = new CnfCompiler();
        x.append('-');
        x.append('1');
        x.append('0');
        x.append(';');
        Check.due("parse()", x.parse(), 1);
        Check.due("implied(-1)", x.implied(-1), 512);
        Check.due("append is not undoable", x.undo(), 0);
        Check.due("append is not undoable", x.undo(), -5);
    }

    private static void appendBytes() {
        Check.sentence(22, "the byte, 0 to 127");
        CnfCompiler x = new CnfCompiler();
        for (int value = -20; value <= 147; value++) {
            boolean is = value >= 0 && value <= 127;
            Check.due("append(" + value + ")", x.append(value), is ? value + 1 : -2);
        }
        Check.due("errorCount(-2)", x.errorCount(-2), 40);
        Check.due("clearText()", x.clearText(), 128);
    }

    private static void appendLength() {
        Check.sentence(22, "Returns the new length of the text");
        CnfCompiler x = new CnfCompiler();
        for (int length = 1; length <= 150; length++) {
            Check.due("append(" + (length - 1) % 128 + ")", x.append((length - 1) % 128), length);
        }
        x.clearText();
        Check.due("after clearText", x.append(0), 1);
        x.parse();
        Check.due("after parse", x.append(0), 2);
    }

    private static void appendRange() {
        Check.sentence(22, "OUT_OF_RANGE if value is out of range");
        CnfCompiler x = new CnfCompiler();
        for (int value : c(-1, 128, 129, 255, 256, -128, Make.LOWEST, Make.HIGHEST)) {
            Check.due("append(" + value + ")", x.append(value), -2);
        }
        Check.due("errorCount(-2)", x.errorCount(-2), 8);
        Check.due("nothing was added", x.clearText(), 0);
        Check.due("append(0)", x.append(0), 1);
        Check.due("append(127)", x.append(127), 2);
        // 305 is 49, a 1, in its lowest 8 bits
        Check.due("append(305)", x.append(305), -2);
    }

    private static void appendRangeFirst() {
        Check.sentence(22, "(checked first)");
        CnfCompiler x = Make.withFullText();
        Check.due("append(128)", x.append(128), -2);
        Check.due("append(-1)", x.append(-1), -2);
        Check.due("errorCount(-2)", x.errorCount(-2), 2);
        Check.due("errorCount(-4)", x.errorCount(-4), 0);
    }

    private static void appendFull() {
        Check.sentence(22, "FULL if the text has 150 bytes.");
        CnfCompiler x = new CnfCompiler();
        for (int i = 0; i < 149; i++) {
            x.append(' ');
        }
        Check.due("the 150th byte", x.append(' '), 150);
        Check.due("the 151st byte", x.append('x'), -4);
        Check.due("byte 0", x.append(0), -4);
        Check.due("byte 127", x.append(127), -4);
        Check.due("errorCount(-4)", x.errorCount(-4), 3);
        Check.due("the text is as it was", x.parse(), 0);
        Check.due("clearText()", x.clearText(), 150);
        Check.due("room again", x.append('x'), 1);
    }

    private static void clearTextEmpties() {
        Check.sentence(23, "Empties the formula text.");
        CnfCompiler x = new CnfCompiler();
        x.append('x');
        Check.due("parse()", x.parse(), -10);
        x.clearText();
        Check.due("parse() of nothing", x.parse(), 0);
        x.append('2');
        x.append(';');
        Check.due("parse() of what came later", x.parse(), 1);
        Check.due("clauses()", x.clauses(), 1);
        Check.due("clauses stay", x.clearText(), 2);
        Check.due("clauses()", x.clauses(), 1);
        Check.due("the two parses are saved, clearText is not", x.undo(), 1);
    }

    private static void clearTextLength() {
        Check.sentence(23, "Returns the length that the text had.");
        CnfCompiler x = new CnfCompiler();
        Check.due("empty", x.clearText(), 0);
        x.append(0);
        Check.due("one byte", x.clearText(), 1);
        Check.due("empty again", x.clearText(), 0);
        CnfCompiler full = Make.withFullText();
        full.append(32);
        Check.due("full", full.clearText(), 150);
        Check.due("empty again", full.clearText(), 0);
    }

    // ---- parse

    private static void parseAppends() {
        Check.sentence(24, "Appends the clauses of the text to the formula.");
        CnfCompiler x = Make.with(c(1, 2));
        Check.due("parse()", Make.parse(x, "3; -4 5 6;7 8 9 -10;"), 3);
        Check.due("clauses()", x.clauses(), 4);
        int[] sizes = {2, 1, 3, 4};
        for (int i = 0; i < 4; i++) {
            Check.due("clauseSize(" + i + ")", x.clauseSize(i), sizes[i]);
        }
        Check.due("models()", x.models(), 3 * 7 * 15);
        CnfCompiler full = Make.withEqualClauses(12);
        Check.due("up to 16", Make.parse(full, "3;4;5;6;"), 4);
        Check.due("implied(1)", full.implied(1), 4 + 8 + 16 + 32);
    }

    private static void parseLeavesTheText() {
        Check.sentence(24, "The text stays as it is.");
        CnfCompiler x = new CnfCompiler();
        Make.write(x, "1 2;3;");
        Check.due("parse()", x.parse(), 2);
        Check.due("parse() again", x.parse(), 2);
        Check.due("clauses()", x.clauses(), 4);
        Check.due("append", x.append('x'), 7);
        Check.due("parse()", x.parse(), -16);
        Check.due("parse() again", x.parse(), -16);
        Check.due("clearText()", x.clearText(), 7);
    }

    private static void parseIsOneState() {
        Check.sentence(24, "Undoable (one saved state for all clauses), if there is no syntax error.");
        CnfCompiler x = new CnfCompiler();
        Make.parse(x, "1;2;3;4;5;6;7;8;");
        Check.due("eight clauses", x.clauses(), 8);
        Check.due("undo()", x.undo(), 0);
        Check.due("no clause", x.clauses(), 0);
        Check.due("one state", x.undo(), -5);
        Check.due("the text is not undone", x.parse(), 8);
        CnfCompiler none = new CnfCompiler();
        Check.due("no clauses", none.parse(), 0);
        Check.due("a state as well", none.undo(), 0);
        CnfCompiler spaces = Make.withEqualClauses(16);
        Check.due("a full formula, spaces", Make.parse(spaces, "  "), 0);
        spaces.undo();
        Check.due("it dropped the oldest", spaces.undo(), 3);
        Check.due("clauses()", spaces.clauses(), 15);
    }

    private static void parseCount() {
        Check.sentence(24, "Returns the number of clauses of the text");
        for (int count = 0; count <= 16; count++) {
            CnfCompiler x = new CnfCompiler();
            Check.due("parse() of " + count, Make.parse(x, "1 -2;".repeat(count)), count);
            Check.due("clauses()", x.clauses(), count);
        }
        CnfCompiler x = Make.withEqualClauses(5);
        Check.due("of the text, not of the formula", Make.parse(x, "1;2;"), 2);
    }

    private static void parseErrorPosition() {
        Check.sentence(24, "-10 minus the syntax error position if there is a syntax error");
        for (int position = 0; position < 150; position++) {
            Check.due("at " + position, Make.parse(new CnfCompiler(), " ".repeat(position) + "x"), -10 - position);
        }
        Check.due("behind 150 bytes", Make.parse(new CnfCompiler(), "1" + " ".repeat(149)), -160);
    }

    private static void parseErrorChangesNothing() {
        Check.sentence(24, "(then nothing changes, no state is saved, and no error is counted).");
        String[] texts = {"x", "1;2;x", "1;2;3", "1;0;", "1;1 1;", "1;1 2 3 4 5;", "1;100;", "1;-", "1;".repeat(15)};
        for (String text : texts) {
            CnfCompiler x = wrongText(text);
            CnfCompiler twin = wrongText(text);
            Check.that("an error in '" + text + "'", x.parse() <= -10);
            Check.due("digest() after '" + text + "'", x.digest(), twin.digest());
            Check.that("all as before '" + text + "'", Sight.all(twin).equals(Sight.all(x)));
        }
        CnfCompiler full = Make.withEqualClauses(16);
        Check.due("a 17th clause", Make.parse(full, "1;"), -10);
        for (int code = -5; code <= -2; code++) {
            Check.due("errorCount(" + code + ")", full.errorCount(code), 0);
        }
    }

    private static CnfCompiler wrongText(String text) {
        CnfCompiler x = Make.with(c(1, 2), c(-2, 3));
        x.assume(4);
        x.setWeight(3, 5);
        Make.write(x, text);
        return x;
    }

    // ---- undo

    private static void undoRestores() {
        Check.sentence(25, "Restores the most recently saved state and removes it from the saved states.");
        CnfCompiler x = new CnfCompiler();
        List<List<Long>> seen = new ArrayList<>();
        seen.add(Sight.present(x));
        x.addClause(1, 2, 0, 0);
        seen.add(Sight.present(x));
        x.assume(-1);
        seen.add(Sight.present(x));
        x.setWeight(2, 6);
        seen.add(Sight.present(x));
        Make.parse(x, "3 4;5;");
        seen.add(Sight.present(x));
        x.removeClause(0);
        for (int left = 4; left >= 0; left--) {
            Check.due("undo()", x.undo(), left);
            Check.that("the state before", seen.get(left).equals(Sight.present(x)));
        }
        // what undo has taken back is gone: the next state is saved in its place
        CnfCompiler y = Make.with(c(1), c(2));
        y.undo();
        y.addClause(-3, 0, 0, 0);
        Check.due("undo()", y.undo(), 1);
        Check.due("{1}", y.implied(1), 1);
        Check.due("undo()", y.undo(), 0);
        Check.due("no clause", y.clauses(), 0);
    }

    private static void undoRemaining() {
        Check.sentence(25, "Returns the number of saved states that remain");
        for (int made = 1; made <= 5; made++) {
            CnfCompiler x = Make.withEqualClauses(made);
            for (int left = made - 1; left >= 0; left--) {
                Check.due("undo()", x.undo(), left);
            }
        }
        Check.due("of six", Make.withEqualClauses(6).undo(), 4);
        Check.due("of sixteen", Make.withEqualClauses(16).undo(), 4);
    }

    private static void undoNothingSaved() {
        Check.sentence(25, "NOTHING_SAVED if there is none.");
        CnfCompiler x = new CnfCompiler();
        Check.due("a new object", x.undo(), -5);
        x.assume(1);
        Check.due("undo()", x.undo(), 0);
        Check.due("no more", x.undo(), -5);
        Check.due("errorCount(-5)", x.errorCount(-5), 2);
        CnfCompiler six = Make.withEqualClauses(6);
        for (int i = 0; i < 5; i++) {
            six.undo();
        }
        Check.due("the sixth was dropped", six.undo(), -5);
        Check.due("the first clause stays", six.clauses(), 1);
    }

    // ---- errorCount

    private static void errorCountCounts() {
        Check.sentence(26, "Returns how often an error code has been returned.");
        CnfCompiler x = new CnfCompiler();
        for (int i = 1; i <= 40; i++) {
            x.assume(0);
            x.addClause(1, 1, 0, 0);
            x.undo();
            Check.due("errorCount(-2)", x.errorCount(-2), i);
            Check.due("errorCount(-3)", x.errorCount(-3), i);
            Check.due("errorCount(-4)", x.errorCount(-4), 0);
            Check.due("errorCount(-5)", x.errorCount(-5), i);
        }
        CnfCompiler full = Make.withEqualClauses(19);
        Check.due("errorCount(-4)", full.errorCount(-4), 3);
        full.undo();
        Check.due("undo leaves the counters", full.errorCount(-4), 3);
    }

    private static void errorCountOfExplanation() {
        Check.sentence(26, "(the result -102 of explanation() is counted as -2)");
        CnfCompiler x = new CnfCompiler();
        Check.due("explanation(0, 0)", x.explanation(0, 0), -102);
        Check.due("errorCount(-2)", x.errorCount(-2), 1);
        Check.due("explanation(1, 3)", x.explanation(1, 3), -102);
        Check.due("errorCount(-2)", x.errorCount(-2), 2);
        Check.due("errorCount(-102)", x.errorCount(-102), -2);
    }

    private static void errorCountRange() {
        Check.sentence(26, "an error code, -5 to -2");
        CnfCompiler x = new CnfCompiler();
        for (int code = -5; code <= -2; code++) {
            Check.due("errorCount(" + code + ")", x.errorCount(code), 0);
        }
        for (int code : c(-6, -1, 0, 1, 2, 5, -7, -10, -102, Make.LOWEST, Make.LOWEST + 1, Make.HIGHEST)) {
            Check.due("errorCount(" + code + ")", x.errorCount(code), -2);
        }
    }

    private static void errorCountCountsItself() {
        Check.sentence(26, "OUT_OF_RANGE if code is out of range (this increments the counter of OUT_OF_RANGE).");
        CnfCompiler x = new CnfCompiler();
        for (int i = 1; i <= 5; i++) {
            Check.due("errorCount(-1)", x.errorCount(-1), -2);
            Check.due("errorCount(-2)", x.errorCount(-2), 2 * i - 1);
            Check.due("errorCount(-6)", x.errorCount(-6), -2);
            Check.due("errorCount(-2)", x.errorCount(-2), 2 * i);
        }
        Check.due("errorCount(-3)", x.errorCount(-3), 0);
        Check.due("errorCount(-5)", x.errorCount(-5), 0);
    }

    // ---- digest

    /** The values that the hash is made of, as the calls answer them. */
    private static List<Long> values(CnfCompiler x, int textLength, int assumed, int[] weights, int saved) {
        List<Long> values = new ArrayList<>(Sight.counters(x));
        values.add((long) textLength);
        values.add((long) x.clauses());
        for (int i = 0; i < x.clauses(); i++) {
            values.add((long) x.clauseSize(i));
        }
        values.add((long) assumed);
        for (int weight : weights) {
            values.add((long) weight);
        }
        values.addAll(List.of((long) x.nodes(), (long) x.decisionNodes(), (long) x.andNodes(), (long) x.depth(),
                (long) x.rootVariable(), (long) x.components(), (long) x.models(), x.weightedCount(),
                (long) x.leastModel(), (long) saved));
        return values;
    }

    /** The hash without a limit, of which the 64 lowest bits are the long. */
    private static long hash(List<Long> values) {
        BigInteger h = BigInteger.valueOf(2671);
        for (long v : values) {
            h = h.multiply(BigInteger.valueOf(31)).add(BigInteger.valueOf(v));
        }
        return h.longValue();
    }

    private static int[] ones() {
        int[] weights = new int[20];
        Arrays.fill(weights, 1);
        return weights;
    }

    private static void digestOfCounters() {
        Check.sentence(27, "the counters of the codes -2, -3, -4, -5");
        CnfCompiler x = Make.withEqualClauses(16);
        for (int i = 0; i < 5; i++) {
            x.undo();
        }
        for (int i = 0; i < 5; i++) {
            x.addClause(1, 0, 0, 0);
        }
        int[] times = {1, 2, 3, 0};
        x.assume(0);
        for (int i = 0; i < times[1]; i++) {
            x.addClause(2, 2, 0, 0);
        }
        for (int i = 0; i < times[2]; i++) {
            x.addClause(2, 0, 0, 0);
        }
        List<Long> values = values(x, 0, 0, ones(), 5);
        for (int i = 0; i < 4; i++) {
            Check.due("value " + i, values.get(i), times[i]);
        }
        Check.due("digest()", x.digest(), hash(values));
    }

    private static void digestOfEachPart() {
        Check.sentence(27, "Start with h = 2671 and, for each of the following values v, set h = 31 * h + v");
        CnfCompiler x = new CnfCompiler();
        Check.due("a new object", x.digest(), hash(values(x, 0, 0, ones(), 0)));
        x.undo();
        Check.due("a counter", x.digest(), hash(values(x, 0, 0, ones(), 0)));
        x.append(0);
        Check.due("the text", x.digest(), hash(values(x, 1, 0, ones(), 0)));
        x.addClause(1, 2, 0, 0);
        x.addClause(3, 4, 5, 0);
        Check.due("clauses", x.digest(), hash(values(x, 1, 0, ones(), 2)));
        x.assume(-1);
        Check.due("an assumption", x.digest(), hash(values(x, 1, 1, ones(), 3)));
        int[] weights = ones();
        for (int v = 1; v <= 10; v++) {
            weights[2 * v - 2] = v % 10;
            weights[2 * v - 1] = 9 - v % 10;
            x.setWeight(v, v % 10);
            x.setWeight(-v, 9 - v % 10);
            Check.due("weights of " + v, x.digest(), hash(values(x, 1, 1, weights, 5)));
        }
        x.assume(-2);
        Check.due("FALSE at the root, no model", x.digest(), hash(values(x, 1, 2, weights, 5)));
        x.undo();
        Check.due("after undo", x.digest(), hash(values(x, 1, 1, weights, 4)));
        Check.due("digest changes nothing", x.digest(), x.digest());
    }

    private static void digestOfSizes() {
        Check.sentence(27, "the length of the text; the number of clauses and the size of each; the number of"
                + " assumptions");
        for (int count = 0; count <= 16; count++) {
            CnfCompiler x = new CnfCompiler();
            for (int i = 0; i < count; i++) {
                x.addClause(1, i > 3 ? 2 : 0, i > 7 ? 3 : 0, i > 11 ? 4 : 0);
            }
            Make.assuming(x, 5, -6);
            Make.write(x, "x".repeat(count));
            Check.due(count + " clauses", x.digest(), hash(values(x, count, 2, ones(), Math.min(count + 2, 5))));
        }
        CnfCompiler full = Make.withFullText();
        Check.due("150 bytes", full.digest(), hash(values(full, 150, 0, ones(), 0)));
        CnfCompiler all = Make.assuming(new CnfCompiler(), 1, 2, 3, 4, 5, 6, 7, 8, 9, 10);
        Check.due("ten assumptions", all.digest(), hash(values(all, 0, 10, ones(), 5)));
    }

    private static void digestOfWeights() {
        Check.sentence(27, "for each variable from 1 to 10 the weight of its positive and of its negative literal");
        for (int v = 1; v <= 10; v++) {
            CnfCompiler x = new CnfCompiler();
            int[] weights = ones();
            x.setWeight(v, 0);
            weights[2 * v - 2] = 0;
            Check.due("weight 0 of " + v, x.digest(), hash(values(x, 0, 0, weights, 1)));
            x.setWeight(-v, 9);
            weights[2 * v - 1] = 9;
            Check.due("weight 9 of " + -v, x.digest(), hash(values(x, 0, 0, weights, 2)));
        }
    }

    private static void digestOfSavedStates() {
        Check.sentence(27, "the number of saved states.");
        CnfCompiler x = new CnfCompiler();
        for (int i = 0; i <= 7; i++) {
            Check.due(i + " saved", x.digest(), hash(values(x, 0, 0, ones(), Math.min(i, 5))));
            x.retractAll();
        }
        for (int left = 4; left >= 0; left--) {
            x.undo();
            Check.due(left + " left", x.digest(), hash(values(x, 0, 0, ones(), left)));
        }
    }

    private static void digestOverflow() {
        Check.sentence(27, "Returns the hash, with the overflow of long arithmetic ignored.");
        CnfCompiler x = new CnfCompiler();
        // 2671 * 31 to the 36th and more is far beyond a long already
        Check.due("a new object", x.digest(), hash(values(x, 0, 0, ones(), 0)));
        CnfCompiler full = Make.withEqualClauses(16);
        int[] nines = new int[20];
        Arrays.fill(nines, 9);
        for (int v = 1; v <= 10; v++) {
            full.setWeight(v, 9);
            full.setWeight(-v, 9);
        }
        Check.due("weights of 9", full.digest(), hash(values(full, 0, 0, nines, 5)));
        full.removeClause(0);
        full.addClause(-1, 0, 0, 0);
        Check.due("another clause", full.digest(), hash(values(full, 0, 0, nines, 5)));
    }
}
