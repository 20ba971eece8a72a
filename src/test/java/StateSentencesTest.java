import java.util.List;
import java.util.function.Consumer;
import java.util.function.Supplier;
import java.util.function.ToLongFunction;

/** The description's sentences on weights, explanations, undo and errors, one by one. */
public final class StateSentencesTest {
    private StateSentencesTest() {
    }

    public static void main(String[] args) {
        Check.all(StateSentencesTest::weights, StateSentencesTest::weightOfAModel,
                StateSentencesTest::weightedCounts, StateSentencesTest::atMostThreeLiterals,
                StateSentencesTest::notTheVariableItself, StateSentencesTest::noAssumedVariable,
                StateSentencesTest::atLeastOneModel, StateSentencesTest::inEachSuchModel,
                StateSentencesTest::leastNumber, StateSentencesTest::firstOfSeveral, StateSentencesTest::codes,
                StateSentencesTest::savedEvenIfNothingChanges, StateSentencesTest::onlySuccessfulCallsAreSaved,
                StateSentencesTest::onlyUndoableCallsAreSaved, StateSentencesTest::atMostFiveStates,
                StateSentencesTest::whatIsSaved, StateSentencesTest::refusedCallsChangeNothing,
                StateSentencesTest::refusedCallsOfFullObjects, StateSentencesTest::refusedCallsAreCounted,
                StateSentencesTest::constants);
        Check.finish();
    }

    private static int[] c(int... literals) {
        return literals;
    }

    // ---- weights

    private static void weights() {
        Check.sentence(0, "Each literal has a weight, 0 to 9, initially 1.");
        for (int literal = -10; literal <= 10; literal++) {
            if (literal != 0) {
                CnfCompiler x = new CnfCompiler();
                Check.due("the first weight of " + literal, x.setWeight(literal, 0), 1);
                Check.due("weight -1", x.setWeight(literal, -1), -2);
                Check.due("weight 10", x.setWeight(literal, 10), -2);
                Check.due("weight 9", x.setWeight(literal, 9), 0);
                Check.due("weight 0", x.setWeight(literal, 0), 9);
                Check.due("half of the models count", x.weightedCount(), 512);
                Check.due("its opposite has a weight of its own", x.setWeight(-literal, 1), 1);
            }
        }
        Check.due("all 1", new CnfCompiler().weightedCount(), 1024);
    }

    private static void weightOfAModel() {
        Check.sentence(0, "The weight of a model is the product of the weights of its 10 true literals.");
        CnfCompiler one = new CnfCompiler();
        long product = 1;
        for (int v = 1; v <= 10; v++) {
            int literal = v % 3 == 0 ? -v : v;
            one.addClause(literal, 0, 0, 0);
            one.setWeight(literal, v % 8 + 2);
            one.setWeight(-literal, 7);
            product *= v % 8 + 2;
        }
        Check.due("one model", one.weightedCount(), product);
        CnfCompiler most = new CnfCompiler();
        for (int v = 1; v <= 10; v++) {
            most.addClause(-v, 0, 0, 0);
            most.setWeight(-v, 9);
        }
        Check.due("9 to the 10th is no int", most.weightedCount(), 3486784401L);
        most.setWeight(-10, 0);
        Check.due("a weight of 0", most.weightedCount(), 0);
    }

    private static void weightedCounts() {
        Check.sentence(0, "The weighted count is the sum of the weights of all models under the assumptions.");
        CnfCompiler x = Make.with(c(1, 2));
        x.setWeight(1, 3);
        x.setWeight(-1, 5);
        x.setWeight(2, 7);
        x.setWeight(-2, 2);
        Check.due("three of four", x.weightedCount(), 256 * (3 * 7 + 3 * 2 + 5 * 7));
        x.assume(-1);
        Check.due("under -1", x.weightedCount(), 256 * 5 * 7);
        x.assume(-2);
        Check.due("no model", x.weightedCount(), 0);
        CnfCompiler most = new CnfCompiler();
        for (int v = 1; v <= 10; v++) {
            most.setWeight(v, 9);
            most.setWeight(-v, 9);
        }
        Check.due("18 to the 10th is no int", most.weightedCount(), 3570467226624L);
    }

    // ---- explanations

    private static void explained(String what, CnfCompiler x, int literal, int size, int... literals) {
        Check.due(what + ": size", x.explanation(literal, -1), size);
        for (int i = 0; i < 3; i++) {
            Check.due(what + ": element " + i, x.explanation(literal, i), i < literals.length ? literals[i] : 0);
        }
    }

    private static void atMostThreeLiterals() {
        Check.sentence(0, "An explanation of a literal g is a set of at most 3 literals with different variables");
        explained("none", Make.with(c(10)), 10, 0);
        explained("one", Make.with(c(-1, 10)), 10, 1, 1);
        explained("two", Make.with(c(-1, -2, 10)), 10, 2, 1, 2);
        explained("three", Make.with(c(-1, -2, -3, 10)), 10, 3, 1, 2, 3);
        explained("three that are negative", Make.with(c(-7, 8, 9, 10)), -7, 3, -8, -9, -10);
        // 1 2 3 4 give 10; by 3 4 9 the same is said with three
        explained("three instead of four", Make.with(c(-1, -2, 9), c(-3, -4, -9, 10)), 10, 3, 3, 4, 9);
    }

    private static void notTheVariableItself() {
        Check.sentence(0, "none of them the variable of g");
        explained("7 does not explain itself", new CnfCompiler(), 7, -1);
        explained("nor does -7", new CnfCompiler(), -7, -1);
        explained("nor in a clause", Make.with(c(1, -7)), 7, -1);
        explained("1", Make.with(c(1)), 1, 0);
    }

    private static void noAssumedVariable() {
        Check.sentence(0, "and none of them the variable of an assumed literal");
        CnfCompiler x = Make.with(c(-1, -2, 5), c(-3, 4, 5));
        explained("nothing assumed", x, 5, 2, 1, 2);
        x.assume(1);
        explained("1 assumed", x, 5, 1, 2);
        x.assume(-2);
        explained("the other clause", x, 5, 2, 3, -4);
        x.assume(-4);
        explained("-4 assumed", x, 5, 1, 3);
        x.assume(3);
        explained("all assumed", x, 5, 0);
        CnfCompiler all = Make.assuming(new CnfCompiler(), 1, 2, 3, 4, 5, 6, 7, 8, 9, 10);
        explained("an assumed literal", all, 10, 0);
        explained("its opposite", all, -10, -1);
    }

    private static void atLeastOneModel() {
        Check.sentence(0, "such that there is at least one model under the assumptions in which all literals of the set"
                + " are true");
        CnfCompiler none = Make.with(c(6), c(-6));
        for (int literal : c(-10, -6, -1, 1, 6, 10)) {
            explained("no model at all", none, literal, -1);
        }
        explained("none under the assumption", Make.assuming(Make.with(c(6)), -6), 1, -1);
        // -1 and 2 have no model, so they explain nothing
        explained("-1 is never true", Make.with(c(1), c(-2), c(-3, 10)), 10, 1, 3);
        // 1 2 have no model together, though each has one
        explained("1 and 2 are never true together", Make.with(c(-1, -2), c(-3, -4, 10)), 10, 2, 3, 4);
        explained("one model is enough", Make.assuming(Make.with(c(-1, 10)), -2, -3, -4, -5, -6, -7, -8, -9), 10, 1, 1);
    }

    private static void inEachSuchModel() {
        Check.sentence(0, "and g is true in each such model.");
        // 1 with -2 leaves 10 open in the models with 3
        CnfCompiler x = Make.with(c(-1, 2, 3, 10));
        explained("1 -2 -3", x, 10, 3, 1, -2, -3);
        x.addClause(-1, 2, -3, 10);
        explained("now without 3", x, 10, 2, 1, -2);
        x.addClause(-1, -2, 10, 0);
        explained("now without 2", x, 10, 1, 1);
        x.addClause(1, 10, 0, 0);
        explained("now in every model", x, 10, 0);
        explained("the variables that come last", Make.with(c(1, 7, 8, 9)), 1, 3, -7, -8, -9);
        explained("the variables on both ends", Make.with(c(1, 2, 6, 10)), 6, 3, -1, -2, -10);
    }

    private static void leastNumber() {
        Check.sentence(0, "A smallest explanation has the least number of literals");
        CnfCompiler x = Make.with(c(-1, -2, -3, 10));
        explained("three", x, 10, 3, 1, 2, 3);
        x.addClause(-8, -9, 10, 0);
        explained("two of higher codes", x, 10, 2, 8, 9);
        x.addClause(9, 10, 0, 0);
        explained("one of a higher code", x, 10, 1, 8);
        x.removeClause(1);
        explained("one, the last code but two", x, 10, 1, -9);
        x.addClause(10, 0, 0, 0);
        explained("none", x, 10, 0);
    }

    private static void firstOfSeveral() {
        Check.sentence(0, "of several, the first one is chosen: the sets are compared as ascending lists of codes");
        explained("1 before 2", Make.with(c(-2, 5), c(-1, 5)), 5, 1, 1);
        explained("1 9 before 2 3", Make.with(c(-2, -3, 5), c(-1, -9, 5)), 5, 2, 1, 9);
        explained("1 3 before 1 4", Make.with(c(-1, -4, 5), c(-1, -3, 5)), 5, 2, 1, 3);
        explained("1 2 9 before 1 3 4", Make.with(c(-1, -3, -4, 5), c(-1, -2, -9, 5)), 5, 3, 1, 2, 9);
        explained("1 2 3 before 1 2 4", Make.with(c(-1, -2, -4, 5), c(-1, -2, -3, 5)), 5, 3, 1, 2, 3);
        explained("ascending, as written or not", Make.with(c(-9, -4, 5, -6)), 5, 3, 4, 6, 9);
    }

    private static void codes() {
        Check.sentence(0, "the code of v being 2 * v and that of -v being 2 * v + 1, element by element.");
        explained("-1 (3) before 2 (4)", Make.with(c(-2, 5), c(1, 5, 7), c(1, 5, -7)), 5, 1, -1);
        explained("2 (4) before -2 (5)", Make.with(c(2, -3, 5), c(-2, -10, 5)), 5, 2, 2, 10);
        explained("-2 (5) before 3 (6)", Make.with(c(-3, -4, 5), c(2, -10, 5)), 5, 2, -2, 10);
        explained("1 -4 (9) before 1 6 (12)", Make.with(c(-1, -6, 5), c(-1, 4, 5)), 5, 2, 1, -4);
        explained("-9 (19) before 10 (20)", Make.with(c(-10, 5), c(9, 5)), 5, 1, -9);
        explained("-10 (21) is the last", Make.with(c(10, 5)), 5, 1, -10);
        explained("-1 -2 before 2 3", Make.with(c(-2, -3, 5), c(1, 2, 5)), 5, 2, -1, -2);
    }

    // ---- undo

    private static void savedEvenIfNothingChanges() {
        Check.sentence(0, "Each successful call of a method whose description says \"undoable\" saves the state from"
                + " before the call, even if the call changes nothing");
        CnfCompiler x = new CnfCompiler();
        Check.due("setWeight(1, 1)", x.setWeight(1, 1), 1);
        Check.due("retractAll()", x.retractAll(), 0);
        Check.due("parse()", x.parse(), 0);
        Check.due("the third of them", x.undo(), 2);
        Check.due("the second", x.undo(), 1);
        Check.due("the first", x.undo(), 0);
        Check.due("no more", x.undo(), -5);
        CnfCompiler each = new CnfCompiler();
        each.addClause(1, 0, 0, 0);
        each.removeClause(0);
        each.assume(1);
        each.retractAll();
        each.setWeight(1, 2);
        Check.due("five calls, four states remain", each.undo(), 4);
        Check.due("before setWeight", each.weightedCount(), 1024);
        Check.due("undo()", each.undo(), 3);
        Check.due("before retractAll", each.models(), 512);
        Check.due("undo()", each.undo(), 2);
        Check.due("before assume", each.models(), 1024);
        Check.due("undo()", each.undo(), 1);
        Check.due("before removeClause", each.clauses(), 1);
        Check.due("undo()", each.undo(), 0);
        Check.due("before addClause", each.clauses(), 0);
    }

    private static void onlySuccessfulCallsAreSaved() {
        Check.sentence(0, "Each successful call of a method");
        CnfCompiler x = new CnfCompiler();
        x.addClause(0, 0, 0, 0);
        x.addClause(1, 1, 0, 0);
        x.removeClause(0);
        x.assume(0);
        x.setWeight(1, 10);
        x.setWeight(0, 1);
        Make.parse(x, ";");
        Check.due("nothing saved", x.undo(), -5);
        CnfCompiler full = Make.withEqualClauses(16);
        for (int left = 4; left >= 1; left--) {
            full.undo();
        }
        full.parse();
        Make.parse(full, "1;1;1;1;1;");
        Check.due("the 17th by text", full.undo(), 1);
        CnfCompiler assumed = Make.assuming(new CnfCompiler(), 1, 1, -1);
        Check.due("conflicts", assumed.undo(), 0);
    }

    private static void onlyUndoableCallsAreSaved() {
        Check.sentence(0, "a method whose description says \"undoable\"");
        CnfCompiler x = new CnfCompiler();
        Sight.present(x);
        Sight.counters(x);
        x.append(49);
        x.clearText();
        x.digest();
        Check.due("none of these is undoable", x.undo(), -5);
        x.addClause(1, 0, 0, 0);
        Sight.present(x);
        x.append(49);
        x.clearText();
        x.digest();
        Check.due("addClause alone", x.undo(), 0);
        Check.due("nor is undo", x.undo(), -5);
    }

    private static void atMostFiveStates() {
        Check.sentence(0, "at most 5 states are saved, and the oldest is dropped first.");
        for (int made = 1; made <= 12; made++) {
            CnfCompiler x = new CnfCompiler();
            for (int i = 0; i < made; i++) {
                x.addClause(1, 2, 0, 0);
            }
            int kept = Math.min(made, 5);
            for (int left = kept - 1; left >= 0; left--) {
                Check.due("undo() after " + made, x.undo(), left);
                Check.due("clauses()", x.clauses(), made - kept + left);
            }
            Check.due("no more after " + made, x.undo(), -5);
            Check.due("clauses()", x.clauses(), made - kept);
        }
        // saving goes on after undo, in the room that undo has made
        CnfCompiler x = Make.withEqualClauses(7);
        x.undo();
        x.undo();
        x.assume(3);
        x.assume(4);
        x.assume(5);
        Check.due("five again", x.undo(), 4);
        Check.due("3 and 4", x.retractAll(), 2);
    }

    private static void whatIsSaved() {
        Check.sentence(0, "The saved state contains the formula, the assumptions and the weights.");
        CnfCompiler x = Make.with(c(1, 2), c(-3), c(4, 5, 6, 7));
        x.assume(4);
        x.setWeight(2, 8);
        List<Long> before = Sight.present(x);
        Make.write(x, "8;9;");
        x.removeClause(1);
        List<Long> after = Sight.present(x);
        Check.that("something has changed", !before.equals(after));
        Check.due("undo()", x.undo(), 4);
        Check.that("as it was before", before.equals(Sight.present(x)));
        Check.due("setWeight(2, 3)", x.setWeight(2, 3), 8);
        Check.due("retractAll()", x.retractAll(), 1);
        Check.due("parse()", x.parse(), 2);
        Check.due("clearText()", x.clearText(), 4);
        x.addClause(0, 0, 0, 0);
        x.undo();
        x.undo();
        Check.due("undo() of three", x.undo(), 2);
        Check.that("as it was before all three", before.equals(Sight.present(x)));
        Check.due("the text is not saved", x.clearText(), 0);
        Check.due("the counters are not saved", x.errorCount(-2), 1);
    }

    // ---- errors

    /** Two equal objects, one of them with a refused call: they differ in one counter by one. */
    private static void refused(String call, Supplier<CnfCompiler> make, ToLongFunction<CnfCompiler> refusedCall,
            int answer, int code) {
        CnfCompiler x = make.get();
        CnfCompiler twin = make.get();
        List<Long> due = Sight.counters(twin);
        due.set(-2 - code, due.get(-2 - code) + 1);
        Check.due(call, refusedCall.applyAsLong(x), answer);
        Check.that("the counter of " + code + " alone goes up by " + call, due.equals(Sight.counters(x)));
        Check.that("nothing else changes by " + call, Sight.all(twin).equals(Sight.all(x)));
    }

    /** Some of everything: five saved states, assumptions, weights and a text. */
    private static CnfCompiler some() {
        CnfCompiler x = Make.with(c(1, 2), c(-2, 3, 4), c(-1, 3), c(5, -6, 7, 8));
        Make.assuming(x, -4, 9);
        x.setWeight(3, 7);
        x.setWeight(-1, 4);
        Make.write(x, "1 2;-9;");
        x.undo();
        x.undo();
        x.setWeight(10, 2);
        return x;
    }

    private static void refused(String call, ToLongFunction<CnfCompiler> refusedCall, int code) {
        refused(call, StateSentencesTest::some, refusedCall, code, code);
    }

    private static void refusedCallsChangeNothing() {
        Check.sentence(0, "A call that returns an error code changes nothing except that it increments the counter of"
                + " that code.");
        refused("addClause(0, 1, 2, 3)", x -> x.addClause(0, 1, 2, 3), -2);
        refused("addClause(11, 0, 0, 0)", x -> x.addClause(11, 0, 0, 0), -2);
        refused("addClause(1, 2, 3, -11)", x -> x.addClause(1, 2, 3, -11), -2);
        refused("addClause(1, 2, 3, -1)", x -> x.addClause(1, 2, 3, -1), -3);
        refused("removeClause(-1)", x -> x.removeClause(-1), -2);
        refused("removeClause(4)", x -> x.removeClause(4), -2);
        refused("clauseSize(-1)", x -> x.clauseSize(-1), -2);
        refused("clauseSize(4)", x -> x.clauseSize(4), -2);
        refused("assume(0)", x -> x.assume(0), -2);
        refused("assume(-11)", x -> x.assume(-11), -2);
        refused("assume(-9)", x -> x.assume(-9), -3);
        refused("assume(9)", x -> x.assume(9), -3);
        refused("setWeight(0, 1)", x -> x.setWeight(0, 1), -2);
        refused("setWeight(11, 1)", x -> x.setWeight(11, 1), -2);
        refused("setWeight(3, 10)", x -> x.setWeight(3, 10), -2);
        refused("setWeight(3, -1)", x -> x.setWeight(3, -1), -2);
        refused("modelsWith(0)", x -> x.modelsWith(0), -2);
        refused("implied(0)", x -> x.implied(0), -2);
        refused("append(-1)", x -> x.append(-1), -2);
        refused("append(128)", x -> x.append(128), -2);
        refused("errorCount(-1)", x -> x.errorCount(-1), -2);
        refused("errorCount(-6)", x -> x.errorCount(-6), -2);
        refused("explanation(0, 0)", StateSentencesTest::some, x -> x.explanation(0, 0), -102, -2);
        refused("explanation(1, 3)", StateSentencesTest::some, x -> x.explanation(1, 3), -102, -2);
        refused("undo()", CnfCompiler::new, CnfCompiler::undo, -5, -5);
    }

    private static void refusedCallsOfFullObjects() {
        Check.sentence(0, "A call that returns an error code changes nothing");
        refused("addClause(3, 4, 0, 0)", () -> Make.withEqualClauses(16), x -> x.addClause(3, 4, 0, 0), -4, -4);
        refused("append(59)", Make::withFullText, x -> x.append(59), -4, -4);
        refused("append(32)", Make::withFullText, x -> x.append(32), -4, -4);
        refused("undo() after undo", StateSentencesTest::emptied, CnfCompiler::undo, -5, -5);
    }

    private static CnfCompiler emptied() {
        CnfCompiler x = Make.with(c(1), c(2), c(3), c(4), c(5), c(6), c(7));
        for (int i = 0; i < 5; i++) {
            x.undo();
        }
        return x;
    }

    private static void counted(int code, int times, Consumer<CnfCompiler> calls) {
        CnfCompiler x = new CnfCompiler();
        calls.accept(x);
        for (int other = -5; other <= -2; other++) {
            Check.due("errorCount(" + other + ")", x.errorCount(other), other == code ? times : 0);
        }
    }

    private static void refusedCallsAreCounted() {
        Check.sentence(0, "it increments the counter of that code.");
        counted(-2, 3, x -> {
            x.assume(0);
            x.assume(11);
            x.explanation(11, 0);
        });
        counted(-3, 2, x -> {
            x.assume(1);
            x.assume(1);
            x.addClause(1, 2, 2, 0);
        });
        counted(-4, 2, x -> {
            for (int i = 0; i < 18; i++) {
                x.addClause(1, 0, 0, 0);
            }
        });
        counted(-5, 4, x -> {
            for (int i = 0; i < 4; i++) {
                x.undo();
            }
        });
        // answers below 0 that are no errors
        counted(-2, 0, x -> {
            x.addClause(2, 3, 0, 0);
            Check.due("a literal", x.explanation(3, 0), -2);
            x.addClause(3, 4, 0, 0);
            x.removeClause(0);
            Check.due("a literal", x.explanation(3, 0), -4);
            x.assume(-3);
            x.assume(-4);
            Check.due("FALSE", x.rootVariable(), -2);
            Check.due("no model", x.leastModel(), -1);
            Check.due("no explanation", x.explanation(1, -1), -1);
            Check.due("a syntax error", Make.parse(x, ";"), -10);
        });
    }

    private static void constants() {
        Check.sentence(0, "`OUT_OF_RANGE = -2`: An argument is not in its range, or there is no such clause.");
        Check.due("OUT_OF_RANGE", CnfCompiler.OUT_OF_RANGE, -2);
        Check.due("an argument", new CnfCompiler().assume(11), CnfCompiler.OUT_OF_RANGE);
        Check.due("no such clause", new CnfCompiler().clauseSize(0), CnfCompiler.OUT_OF_RANGE);
        Check.sentence(0, "`CONFLICT = -3`: The variable is used already.");
        Check.due("CONFLICT", CnfCompiler.CONFLICT, -3);
        Check.due("in a clause", new CnfCompiler().addClause(1, -1, 0, 0), CnfCompiler.CONFLICT);
        Check.due("among the assumptions", Make.assuming(new CnfCompiler(), 1).assume(-1), CnfCompiler.CONFLICT);
        Check.sentence(0, "`FULL = -4`: There is no more room.");
        Check.due("FULL", CnfCompiler.FULL, -4);
        Check.due("in the formula", Make.withEqualClauses(16).addClause(1, 0, 0, 0), CnfCompiler.FULL);
        Check.due("in the text", Make.withFullText().append(32), CnfCompiler.FULL);
        Check.sentence(0, "`NOTHING_SAVED = -5`: There is no saved state.");
        Check.due("NOTHING_SAVED", CnfCompiler.NOTHING_SAVED, -5);
        Check.due("a new object", new CnfCompiler().undo(), CnfCompiler.NOTHING_SAVED);
        Check.sentence(0, "`NONE = -1`: There is no such thing.");
        Check.due("NONE", CnfCompiler.NONE, -1);
        Check.due("no model", Make.with(c(1), c(-1)).leastModel(), CnfCompiler.NONE);
        Check.due("no explanation", new CnfCompiler().explanation(1, -1), CnfCompiler.NONE);
    }
}
