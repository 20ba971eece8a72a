/** The sentences of promises 1 to 8, one by one: a new object, clauses, assumptions and weights. */
public final class ChangeSentencesTest {
    private static final int[] NO_LITERALS = {-11, 11, -12, 12, 127, -128, Make.LOWEST, Make.LOWEST + 1, Make.HIGHEST};

    private ChangeSentencesTest() {
    }

    public static void main(String[] args) {
        Check.all(ChangeSentencesTest::newObject, ChangeSentencesTest::addClauseAppends,
                ChangeSentencesTest::addClauseTakesZeros, ChangeSentencesTest::addClauseNumber,
                ChangeSentencesTest::addClauseRange, ChangeSentencesTest::addClauseRangeFirst,
                ChangeSentencesTest::addClauseConflict, ChangeSentencesTest::addClauseConflictSecond,
                ChangeSentencesTest::addClauseFull, ChangeSentencesTest::removeClauseMovesDown,
                ChangeSentencesTest::removeClauseUndo, ChangeSentencesTest::removeClauseRemaining,
                ChangeSentencesTest::removeClauseRange, ChangeSentencesTest::clauses,
                ChangeSentencesTest::clauseSize, ChangeSentencesTest::clauseSizeRange,
                ChangeSentencesTest::assumeAdds, ChangeSentencesTest::assumeUndo, ChangeSentencesTest::assumeRange,
                ChangeSentencesTest::assumeConflict, ChangeSentencesTest::retractAll,
                ChangeSentencesTest::retractAllUndo, ChangeSentencesTest::retractAllCount,
                ChangeSentencesTest::setWeight, ChangeSentencesTest::setWeightUndo,
                ChangeSentencesTest::setWeightPrevious, ChangeSentencesTest::setWeightRange,
                ChangeSentencesTest::weightRange);
        Check.finish();
    }

    private static int[] c(int... literals) {
        return literals;
    }

    private static void newObject() {
        Check.sentence(1, "Creates a compiler with an empty formula, no assumptions, all weights 1 and an empty text.");
        Check.due("clauses()", new CnfCompiler().clauses(), 0);
        Check.due("clauseSize(0)", new CnfCompiler().clauseSize(0), -2);
        Check.due("removeClause(0)", new CnfCompiler().removeClause(0), -2);
        Check.due("retractAll()", new CnfCompiler().retractAll(), 0);
        Check.due("models()", new CnfCompiler().models(), 1024);
        Check.due("weightedCount()", new CnfCompiler().weightedCount(), 1024);
        for (int v = 1; v <= 10; v++) {
            Check.due("weight of " + v, new CnfCompiler().setWeight(v, 5), 1);
            Check.due("weight of " + -v, new CnfCompiler().setWeight(-v, 5), 1);
        }
        Check.due("clearText()", new CnfCompiler().clearText(), 0);
        Check.due("append(49)", new CnfCompiler().append(49), 1);
        Check.due("undo()", new CnfCompiler().undo(), -5);
        for (int code = -5; code <= -2; code++) {
            Check.due("errorCount(" + code + ")", new CnfCompiler().errorCount(code), 0);
        }
        // an object that was used does not show through a new one
        CnfCompiler used = Make.with(c(1), c(2));
        used.assume(3);
        used.setWeight(4, 0);
        used.append(49);
        Check.that("as new as any", new CnfCompiler().digest() == new CnfCompiler().digest());
        Check.due("clauses() of a new one", new CnfCompiler().clauses(), 0);
        Check.due("clauses() of the used one", used.clauses(), 2);
        Check.due("its weight of 4", used.setWeight(4, 5), 0);
        Check.due("its text", used.clearText(), 1);
        Check.due("its assumption", used.retractAll(), 1);
    }

    // ---- addClause

    private static void addClauseAppends() {
        Check.sentence(2, "Appends a clause to the formula. Undoable.");
        CnfCompiler x = Make.with(c(1), c(2, 3));
        Check.due("addClause(4, 5, 6, 0)", x.addClause(4, 5, 6, 0), 2);
        Check.due("clauseSize(0)", x.clauseSize(0), 1);
        Check.due("clauseSize(1)", x.clauseSize(1), 2);
        Check.due("clauseSize(2)", x.clauseSize(2), 3);
        Check.due("models()", x.models(), 512 * 3 / 4 * 7 / 8);
        Check.due("undo()", x.undo(), 2);
        Check.due("clauses()", x.clauses(), 2);
        Check.due("models()", x.models(), 384);
        Check.due("nodes()", x.nodes(), 6);
    }

    private static void addClauseTakesZeros() {
        Check.sentence(2, "a literal, or 0 for none");
        int[][] given = {{1, 0, 0, 0}, {1, 2, 0, 0}, {1, 0, 2, 0}, {1, 0, 0, 2}, {1, 2, 3, 0}, {1, 2, 0, 3},
            {1, 0, 2, 3}, {1, 2, 3, 4}};
        int[] sizes = {1, 2, 2, 2, 3, 3, 3, 4};
        for (int i = 0; i < given.length; i++) {
            CnfCompiler x = new CnfCompiler();
            Check.due("addClause", Make.add(x, given[i]), 0);
            Check.due("clauseSize(0)", x.clauseSize(0), sizes[i]);
            Check.due("models()", x.models(), 1024 - (1024 >> sizes[i]));
        }
    }

    private static void addClauseNumber() {
        Check.sentence(2, "Returns the number of the new clause");
        CnfCompiler x = new CnfCompiler();
        for (int i = 0; i < 16; i++) {
            Check.due("addClause", x.addClause(1, 2, 0, 0), i);
        }
        x.removeClause(3);
        Check.due("after removeClause", x.addClause(1, 0, 0, 0), 15);
        x.undo();
        Check.due("after undo", x.addClause(1, 0, 0, 0), 15);
        CnfCompiler parsed = new CnfCompiler();
        Make.parse(parsed, "1;2;3;");
        Check.due("after parse", parsed.addClause(1, 0, 0, 0), 3);
    }

    private static void addClauseRange() {
        Check.sentence(2, "OUT_OF_RANGE if a is 0 or an argument is less than -10 or greater than 10");
        CnfCompiler x = new CnfCompiler();
        Check.due("addClause(0, 0, 0, 0)", x.addClause(0, 0, 0, 0), -2);
        Check.due("addClause(0, 1, 0, 0)", x.addClause(0, 1, 0, 0), -2);
        Check.due("addClause(0, 1, 2, 3)", x.addClause(0, 1, 2, 3), -2);
        for (int number : NO_LITERALS) {
            Check.due("a is " + number, x.addClause(number, 0, 0, 0), -2);
            Check.due("b is " + number, x.addClause(1, number, 0, 0), -2);
            Check.due("c is " + number, x.addClause(1, 0, number, 0), -2);
            Check.due("d is " + number, x.addClause(1, 0, 0, number), -2);
        }
        Check.due("errorCount(-2)", x.errorCount(-2), 3 + 4 * NO_LITERALS.length);
        Check.due("clauses()", x.clauses(), 0);
        Check.due("addClause(10, -9, 8, -7)", x.addClause(10, -9, 8, -7), 0);
        Check.due("addClause(-10, 9, -8, 7)", x.addClause(-10, 9, -8, 7), 1);
        Check.due("addClause(7, 8, 9, 10)", x.addClause(7, 8, 9, 10), 2);
        Check.due("addClause(-7, -8, -9, -10)", x.addClause(-7, -8, -9, -10), 3);
    }

    private static void addClauseRangeFirst() {
        Check.sentence(2, "greater than 10 (checked first)");
        CnfCompiler x = new CnfCompiler();
        Check.due("a 0, b and c the same", x.addClause(0, 1, 1, 0), -2);
        Check.due("a and b the same, d 11", x.addClause(1, 1, 0, 11), -2);
        Check.due("a and b opposite, c -11", x.addClause(1, -1, -11, 0), -2);
        Check.due("11 twice", x.addClause(11, 11, 0, 0), -2);
        Check.due("LOWEST twice", x.addClause(1, Make.LOWEST, Make.LOWEST, 0), -2);
        Check.due("errorCount(-3)", x.errorCount(-3), 0);
        CnfCompiler full = Make.withEqualClauses(16);
        Check.due("a 0, the formula full", full.addClause(0, 1, 0, 0), -2);
        Check.due("d 11, the formula full", full.addClause(1, 2, 3, 11), -2);
        Check.due("all three", full.addClause(1, 1, 11, 0), -2);
        Check.due("errorCount(-4)", full.errorCount(-4), 0);
    }

    private static void addClauseConflict() {
        Check.sentence(2, "CONFLICT if two literals have the same variable");
        int[][] places = {{0, 1}, {0, 2}, {0, 3}, {1, 2}, {1, 3}, {2, 3}};
        for (int[] place : places) {
            for (int sign = -1; sign <= 1; sign += 2) {
                CnfCompiler x = new CnfCompiler();
                int[] n = {1, 2, 3, 4};
                n[place[0]] = 10;
                n[place[1]] = sign * 10;
                Check.due("places " + place[0] + " and " + place[1], Make.add(x, n), -3);
                n[place[0]] = -10;
                Check.due("places " + place[0] + " and " + place[1], Make.add(x, n), -3);
                Check.due("errorCount(-3)", x.errorCount(-3), 2);
                Check.due("clauses()", x.clauses(), 0);
            }
        }
        CnfCompiler x = new CnfCompiler();
        Check.due("addClause(5, 0, 0, -5)", x.addClause(5, 0, 0, -5), -3);
        Check.due("zeros are no literals", x.addClause(5, 0, 0, 0), 0);
        Check.due("another clause may have the variable", x.addClause(-5, 0, 0, 0), 1);
        x.assume(5);
        Check.due("an assumption may have it", x.addClause(5, 6, 0, 0), 2);
    }

    private static void addClauseConflictSecond() {
        Check.sentence(2, "(checked second)");
        CnfCompiler full = Make.withEqualClauses(16);
        Check.due("addClause(3, 3, 0, 0)", full.addClause(3, 3, 0, 0), -3);
        Check.due("addClause(3, 4, 5, -4)", full.addClause(3, 4, 5, -4), -3);
        Check.due("errorCount(-4)", full.errorCount(-4), 0);
        Check.due("errorCount(-3)", full.errorCount(-3), 2);
    }

    private static void addClauseFull() {
        Check.sentence(2, "FULL if the formula has 16 clauses.");
        CnfCompiler x = Make.withEqualClauses(15);
        Check.due("the 16th", x.addClause(3, 0, 0, 0), 15);
        Check.due("the 17th", x.addClause(4, 0, 0, 0), -4);
        Check.due("the 17th again", x.addClause(4, 5, 6, 7), -4);
        Check.due("errorCount(-4)", x.errorCount(-4), 2);
        Check.due("clauses()", x.clauses(), 16);
        Check.due("models()", x.models(), 384);
        Check.due("undo() is of the 16th", x.undo(), 4);
        Check.due("clauses()", x.clauses(), 15);
        Check.due("the 16th again", x.addClause(4, 0, 0, 0), 15);
        x.removeClause(0);
        Check.due("room by removeClause", x.addClause(5, 0, 0, 0), 15);
        CnfCompiler parsed = new CnfCompiler();
        Make.parse(parsed, "1;".repeat(16));
        Check.due("full by parse", parsed.addClause(1, 0, 0, 0), -4);
    }

    // ---- removeClause

    private static CnfCompiler sizesOneToFour() {
        return Make.with(c(1), c(1, 2), c(1, 2, 3), c(1, 2, 3, 4));
    }

    private static void sizes(CnfCompiler x, int... sizes) {
        Check.due("clauses()", x.clauses(), sizes.length);
        for (int i = 0; i < sizes.length; i++) {
            Check.due("clauseSize(" + i + ")", x.clauseSize(i), sizes[i]);
        }
        Check.due("clauseSize(" + sizes.length + ")", x.clauseSize(sizes.length), -2);
    }

    private static void removeClauseMovesDown() {
        Check.sentence(3, "Removes a clause. The clauses with higher numbers move down by one.");
        int[][] left = {{2, 3, 4}, {1, 3, 4}, {1, 2, 4}, {1, 2, 3}};
        for (int i = 0; i < 4; i++) {
            CnfCompiler x = sizesOneToFour();
            Check.due("removeClause(" + i + ")", x.removeClause(i), 3);
            sizes(x, left[i]);
        }
        CnfCompiler full = Make.withEqualClauses(15);
        full.addClause(-3, 0, 0, 0);
        Check.due("the first of 16", full.removeClause(0), 15);
        Check.due("the last has moved to 14", full.clauseSize(14), 1);
        Check.due("there is no clause 15", full.clauseSize(15), -2);
        Check.due("implied(-1)", full.implied(-1), 4);
        Check.due("removeClause(14)", full.removeClause(14), 14);
        Check.due("implied(-1)", full.implied(-1), 0);
    }

    private static void removeClauseUndo() {
        Check.sentence(3, "Undoable.");
        CnfCompiler x = sizesOneToFour();
        x.removeClause(1);
        x.removeClause(0);
        Check.due("undo()", x.undo(), 4);
        sizes(x, 1, 3, 4);
        Check.due("undo()", x.undo(), 3);
        sizes(x, 1, 2, 3, 4);
    }

    private static void removeClauseRemaining() {
        Check.sentence(3, "Returns the number of clauses that remain");
        CnfCompiler x = Make.withEqualClauses(16);
        for (int left = 15; left >= 0; left--) {
            Check.due("removeClause(" + left + ")", x.removeClause(left), left);
        }
        Check.due("models()", x.models(), 1024);
    }

    private static void removeClauseRange() {
        Check.sentence(3, "OUT_OF_RANGE if there is no such clause.");
        CnfCompiler x = new CnfCompiler();
        Check.due("of none", x.removeClause(0), -2);
        x.addClause(1, 0, 0, 0);
        for (int number : c(-1, 1, 2, 15, 16, 17, Make.LOWEST, Make.HIGHEST)) {
            Check.due("removeClause(" + number + ")", x.removeClause(number), -2);
        }
        Check.due("errorCount(-2)", x.errorCount(-2), 9);
        Check.due("clauses()", x.clauses(), 1);
        Check.due("removeClause(0)", x.removeClause(0), 0);
        Check.due("of none again", x.removeClause(0), -2);
        CnfCompiler full = Make.withEqualClauses(16);
        Check.due("removeClause(16)", full.removeClause(16), -2);
        Check.due("removeClause(15)", full.removeClause(15), 15);
        Check.due("removeClause(15)", full.removeClause(15), -2);
    }

    // ---- clauses and clauseSize

    private static void clauses() {
        Check.sentence(4, "Returns the number of clauses, 0 to 16.");
        CnfCompiler x = new CnfCompiler();
        Check.due("clauses()", x.clauses(), 0);
        for (int i = 1; i <= 18; i++) {
            x.addClause(1, 0, 0, 0);
            Check.due("clauses()", x.clauses(), Math.min(i, 16));
        }
        Make.parse(x, "1;");
        Check.due("after a parse that has no room", x.clauses(), 16);
        x.removeClause(5);
        Check.due("after removeClause", x.clauses(), 15);
        x.undo();
        Check.due("after undo", x.clauses(), 16);
    }

    private static void clauseSize() {
        Check.sentence(5, "Returns the number of literals; OUT_OF_RANGE");
        sizes(sizesOneToFour(), 1, 2, 3, 4);
        CnfCompiler x = Make.assuming(sizesOneToFour(), -1, 2);
        sizes(x, 1, 2, 3, 4);
        CnfCompiler parsed = new CnfCompiler();
        Make.parse(parsed, "10 9 8 7;-1;");
        sizes(parsed, 4, 1);
    }

    private static void clauseSizeRange() {
        Check.sentence(5, "OUT_OF_RANGE if there is no such clause.");
        CnfCompiler x = new CnfCompiler();
        Check.due("of none", x.clauseSize(0), -2);
        x.addClause(1, 0, 0, 0);
        for (int number : c(-1, 1, 2, 15, 16, 17, Make.LOWEST, Make.HIGHEST)) {
            Check.due("clauseSize(" + number + ")", x.clauseSize(number), -2);
        }
        Check.due("errorCount(-2)", x.errorCount(-2), 9);
        Check.due("clauseSize(0)", x.clauseSize(0), 1);
        x.undo();
        Check.due("after undo", x.clauseSize(0), -2);
        CnfCompiler full = Make.withEqualClauses(16);
        Check.due("clauseSize(15)", full.clauseSize(15), 2);
        Check.due("clauseSize(16)", full.clauseSize(16), -2);
    }

    // ---- assume and retractAll

    private static void assumeAdds() {
        Check.sentence(6, "Returns the number of assumed literals; OUT_OF_RANGE");
        CnfCompiler x = new CnfCompiler();
        for (int v = 10; v >= 1; v--) {
            Check.due("assume", x.assume(v % 2 == 0 ? v : -v), 11 - v);
        }
        Check.due("leastModel()", x.leastModel(), 0b1010101010);
        x.retractAll();
        Check.due("after retractAll", x.assume(4), 1);
    }

    private static void assumeUndo() {
        Check.sentence(6, "Adds a literal to the assumptions. Undoable.");
        CnfCompiler x = Make.assuming(Make.with(c(1, 2)), -1);
        x.assume(-2);
        Check.due("models()", x.models(), 0);
        Check.due("undo()", x.undo(), 2);
        Check.due("models()", x.models(), 256);
        Check.due("assume(-2) again", x.assume(-2), 2);
        // a literal that holds anyway is assumed as any other
        CnfCompiler implied = Make.with(c(1));
        Check.due("assume(1)", implied.assume(1), 1);
        Check.due("models()", implied.models(), 512);
        Check.due("undo()", implied.undo(), 1);
    }

    private static void assumeRange() {
        Check.sentence(6, "OUT_OF_RANGE if literal is 0, less than -10 or greater than 10 (checked first)");
        CnfCompiler x = Make.assuming(new CnfCompiler(), 1, 2, 3, 4, 5, 6, 7, 8, 9, 10);
        Check.due("assume(0)", x.assume(0), -2);
        for (int number : NO_LITERALS) {
            Check.due("assume(" + number + ")", x.assume(number), -2);
        }
        Check.due("errorCount(-2)", x.errorCount(-2), 1 + NO_LITERALS.length);
        Check.due("errorCount(-3)", x.errorCount(-3), 0);
        CnfCompiler none = new CnfCompiler();
        Check.due("assume(0)", none.assume(0), -2);
        Check.due("assume(-10)", none.assume(-10), 1);
        Check.due("assume(9)", none.assume(9), 2);
    }

    private static void assumeConflict() {
        Check.sentence(6, "CONFLICT if its variable occurs in the assumptions.");
        for (int v = 1; v <= 10; v++) {
            for (int sign = -1; sign <= 1; sign += 2) {
                CnfCompiler x = Make.assuming(new CnfCompiler(), sign * v);
                Check.due("the same", x.assume(sign * v), -3);
                Check.due("the opposite", x.assume(-sign * v), -3);
                Check.due("errorCount(-3)", x.errorCount(-3), 2);
                Check.due("models()", x.models(), 512);
                Check.due("one is assumed", x.retractAll(), 1);
                Check.due("the opposite after retractAll", x.assume(-sign * v), 1);
            }
        }
        CnfCompiler x = Make.with(c(1));
        Check.due("a clause is no assumption", x.assume(-1), 1);
    }

    private static void retractAll() {
        Check.sentence(7, "Removes all assumptions.");
        CnfCompiler x = Make.assuming(Make.with(c(1, 2)), -1, -2, 3);
        Check.due("rootVariable()", x.rootVariable(), -2);
        x.retractAll();
        Check.due("models()", x.models(), 768);
        Check.due("rootVariable()", x.rootVariable(), 1);
        Check.due("assume(1)", x.assume(1), 1);
    }

    private static void retractAllUndo() {
        Check.sentence(7, "Undoable.");
        CnfCompiler x = Make.assuming(new CnfCompiler(), 1, -2);
        x.retractAll();
        Check.due("undo()", x.undo(), 2);
        Check.due("models()", x.models(), 256);
        Check.due("assume(2)", x.assume(2), -3);
        CnfCompiler none = new CnfCompiler();
        none.retractAll();
        Check.due("of none", none.undo(), 0);
    }

    private static void retractAllCount() {
        Check.sentence(7, "Returns the number of literals that were assumed.");
        CnfCompiler x = new CnfCompiler();
        for (int count = 0; count <= 10; count++) {
            for (int v = 1; v <= count; v++) {
                x.assume(-v);
            }
            Check.due("retractAll()", x.retractAll(), count);
            Check.due("retractAll() again", x.retractAll(), 0);
        }
    }

    // ---- setWeight

    private static void setWeight() {
        Check.sentence(8, "Sets the weight of a literal.");
        for (int literal = -10; literal <= 10; literal++) {
            if (literal != 0) {
                CnfCompiler x = new CnfCompiler();
                for (int weight = 0; weight <= 9; weight++) {
                    x.setWeight(literal, weight);
                    Check.due("weight " + weight + " of " + literal, x.weightedCount(), 512 + 512 * weight);
                    Check.due("models() does not see it", x.models(), 1024);
                }
                x.assume(-literal);
                Check.due("the opposite keeps its own", x.weightedCount(), 512);
            }
        }
    }

    private static void setWeightUndo() {
        Check.sentence(8, "Undoable.");
        CnfCompiler x = new CnfCompiler();
        x.setWeight(-10, 9);
        x.setWeight(-10, 0);
        x.setWeight(-10, 0);
        Check.due("undo()", x.undo(), 2);
        Check.due("weightedCount()", x.weightedCount(), 512);
        Check.due("undo()", x.undo(), 1);
        Check.due("weightedCount()", x.weightedCount(), 512 * 10);
        Check.due("undo()", x.undo(), 0);
        Check.due("weightedCount()", x.weightedCount(), 1024);
    }

    private static void setWeightPrevious() {
        Check.sentence(8, "Returns the previous weight");
        CnfCompiler x = new CnfCompiler();
        int previous = 1;
        for (int weight = 0; weight <= 9; weight++) {
            Check.due("setWeight(-7, " + weight + ")", x.setWeight(-7, weight), previous);
            previous = weight;
        }
        Check.due("after undo", x.undo(), 4);
        Check.due("the weight before", x.setWeight(-7, 1), 8);
        Check.due("7 has its own", x.setWeight(7, 3), 1);
    }

    private static void setWeightRange() {
        Check.sentence(8, "OUT_OF_RANGE if an argument is out of range or literal is 0.");
        CnfCompiler x = new CnfCompiler();
        Check.due("setWeight(0, 1)", x.setWeight(0, 1), -2);
        for (int number : NO_LITERALS) {
            Check.due("setWeight(" + number + ", 1)", x.setWeight(number, 1), -2);
        }
        Check.due("setWeight(1, 10)", x.setWeight(1, 10), -2);
        Check.due("both", x.setWeight(0, 10), -2);
        Check.due("errorCount(-2)", x.errorCount(-2), 3 + NO_LITERALS.length);
        Check.due("weightedCount()", x.weightedCount(), 1024);
        Check.due("setWeight(10, 9)", x.setWeight(10, 9), 1);
        Check.due("setWeight(-10, 0)", x.setWeight(-10, 0), 1);
    }

    private static void weightRange() {
        Check.sentence(8, "new weight, 0 to 9");
        CnfCompiler x = new CnfCompiler();
        int previous = 1;
        for (int weight = -3; weight <= 13; weight++) {
            boolean is = weight >= 0 && weight <= 9;
            Check.due("setWeight(5, " + weight + ")", x.setWeight(5, weight), is ? previous : -2);
            previous = is ? weight : previous;
        }
        for (int weight : c(-9, 100, 256, 265, Make.LOWEST, Make.HIGHEST)) {
            Check.due("setWeight(5, " + weight + ")", x.setWeight(5, weight), -2);
        }
        Check.due("errorCount(-2)", x.errorCount(-2), 13);
        Check.due("the last one of them all", x.setWeight(5, 9), 9);
    }
}
