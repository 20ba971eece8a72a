/** For each promise of the document: ordinary inputs, the edges that it names, wrong inputs. */
public final class PromisesTest {
    private static final int LOWEST = Integer.MIN_VALUE;
    private static final int HIGHEST = Integer.MAX_VALUE;

    private PromisesTest() {
    }

    public static void main(String[] args) {
        constants();
        newObject();
        addClause();
        addClauseOrderOfChecks();
        removeClause();
        clauses();
        clauseSize();
        assume();
        retractAll();
        setWeight();
        nodes();
        sharedNodes();
        decisionNodes();
        andNodes();
        depth();
        rootVariable();
        components();
        models();
        modelsWith();
        weightedCount();
        shareBits();
        implied();
        leastModel();
        explanation();
        explanationOrder();
        explanationOfThree();
        explanationUnderAssumptions();
        append();
        clearText();
        parse();
        undo();
        undoIsBounded();
        undoLeavesTheRest();
        errorCount();
        errorsChangeNothing();
        digest();
        Check.finish();
    }

    private static CnfCompiler with(int[]... clauses) {
        CnfCompiler x = new CnfCompiler();
        for (int[] c : clauses) {
            int b = c.length > 1 ? c[1] : 0;
            int d = c.length > 2 ? c[2] : 0;
            int e = c.length > 3 ? c[3] : 0;
            Check.that("the clause is added", x.addClause(c[0], b, d, e) >= 0);
        }
        return x;
    }

    private static int[] c(int... literals) {
        return literals;
    }

    private static void write(CnfCompiler x, String text) {
        x.clearText();
        for (int i = 0; i < text.length(); i++) {
            Check.due("append in '" + text + "'", x.append(text.charAt(i)), i + 1);
        }
    }

    private static void constants() {
        Check.due("OUT_OF_RANGE", CnfCompiler.OUT_OF_RANGE, -2);
        Check.due("CONFLICT", CnfCompiler.CONFLICT, -3);
        Check.due("FULL", CnfCompiler.FULL, -4);
        Check.due("NOTHING_SAVED", CnfCompiler.NOTHING_SAVED, -5);
        Check.due("NONE", CnfCompiler.NONE, -1);
    }

    private static void newObject() {
        CnfCompiler x = new CnfCompiler();
        Check.due("1: clauses()", x.clauses(), 0);
        Check.due("1: models()", x.models(), 1024);
        Check.due("1: weightedCount()", x.weightedCount(), 1024);
        for (int code = -5; code <= -2; code++) {
            Check.due("1: errorCount(" + code + ")", x.errorCount(code), 0);
        }
        Check.due("1: parse()", x.parse(), 0);
        Check.due("1: clearText()", x.clearText(), 0);
        Check.due("1: undo()", x.undo(), 0);
        Check.due("1: retractAll()", x.retractAll(), 0);
        for (int v = 1; v <= 10; v++) {
            Check.due("1: setWeight(" + v + ", 1)", x.setWeight(v, 1), 1);
            Check.due("1: setWeight(" + -v + ", 1)", x.setWeight(-v, 1), 1);
        }
        CnfCompiler other = with(c(1));
        Check.due("1: an object of its own", new CnfCompiler().clauses(), 0);
        Check.due("1: the other object", other.clauses(), 1);
    }

    private static void addClause() {
        CnfCompiler x = new CnfCompiler();
        Check.due("2: addClause(10, -9, 8, -7)", x.addClause(10, -9, 8, -7), 0);
        Check.due("2: addClause(-10, 0, 0, 0)", x.addClause(-10, 0, 0, 0), 1);
        Check.due("2: addClause(1, 0, 2, 0)", x.addClause(1, 0, 2, 0), 2);
        Check.due("2: addClause(1, 0, 0, 2)", x.addClause(1, 0, 0, 2), 3);
        Check.due("2: clauseSize(0)", x.clauseSize(0), 4);
        Check.due("2: clauseSize(2)", x.clauseSize(2), 2);
        // -10 holds; of 9, 8, 7 one combination of 8 is out; of 1, 2 one of 4
        Check.due("2: models()", x.models(), 7 * 3 * 16);
        Check.due("2: undo()", x.undo(), 3);
        Check.due("2: clauses() after undo", x.clauses(), 3);
        int[][] wrong = {{0, 1, 2, 3}, {0, 0, 0, 0}, {11, 0, 0, 0}, {-11, 0, 0, 0}, {1, 11, 0, 0}, {1, -11, 0, 0},
            {1, 0, 11, 0}, {1, 0, -11, 0}, {1, 0, 0, 11}, {1, 0, 0, -11}, {LOWEST, 0, 0, 0}, {1, HIGHEST, 0, 0},
            {1, 2, LOWEST, 0}, {1, 2, 3, HIGHEST}, {1, 2, 3, LOWEST}};
        for (int[] n : wrong) {
            Check.due("2: out of range", x.addClause(n[0], n[1], n[2], n[3]), -2);
        }
        Check.due("2: errorCount(-2)", x.errorCount(-2), wrong.length);
        int[][] same = {{1, 1, 0, 0}, {1, -1, 0, 0}, {1, 2, 1, 0}, {1, 2, -1, 0}, {1, 2, 3, 1}, {-1, 2, 3, 1},
            {1, 2, 2, 0}, {1, 2, 3, -2}, {1, 2, 3, 3}, {1, 0, 0, 1}, {1, 0, 5, -5}};
        for (int[] n : same) {
            Check.due("2: conflict", x.addClause(n[0], n[1], n[2], n[3]), -3);
        }
        Check.due("2: errorCount(-3)", x.errorCount(-3), same.length);
        Check.due("2: clauses() after errors", x.clauses(), 3);
    }

    private static void addClauseOrderOfChecks() {
        CnfCompiler x = new CnfCompiler();
        for (int i = 0; i < 16; i++) {
            Check.due("2: clause " + i, x.addClause(1, 2, 0, 0), i);
        }
        Check.due("2: the 17th clause", x.addClause(3, 0, 0, 0), -4);
        Check.due("2: range before conflict", x.addClause(1, 1, 11, 0), -2);
        Check.due("2: range before full", x.addClause(0, 1, 0, 0), -2);
        Check.due("2: conflict before full", x.addClause(1, -1, 0, 0), -3);
        Check.due("2: clauses()", x.clauses(), 16);
        Check.due("2: errorCount(-4)", x.errorCount(-4), 1);
        Check.due("2: room again", x.removeClause(15), 15);
        Check.due("2: the 16th clause again", x.addClause(3, 0, 0, 0), 15);
    }

    private static void removeClause() {
        CnfCompiler x = with(c(1), c(1, 2), c(1, 2, 3), c(1, 2, 3, 4));
        Check.due("3: removeClause(4)", x.removeClause(4), -2);
        Check.due("3: removeClause(-1)", x.removeClause(-1), -2);
        Check.due("3: removeClause(LOWEST)", x.removeClause(LOWEST), -2);
        Check.due("3: removeClause(HIGHEST)", x.removeClause(HIGHEST), -2);
        Check.due("3: removeClause(1)", x.removeClause(1), 3);
        Check.due("3: clauseSize(0)", x.clauseSize(0), 1);
        Check.due("3: clauseSize(1)", x.clauseSize(1), 3);
        Check.due("3: clauseSize(2)", x.clauseSize(2), 4);
        Check.due("3: clauseSize(3)", x.clauseSize(3), -2);
        Check.due("3: removeClause(3)", x.removeClause(3), -2);
        Check.due("3: removeClause(0)", x.removeClause(0), 2);
        Check.due("3: models()", x.models(), 7 * 128);
        Check.due("3: removeClause(1)", x.removeClause(1), 1);
        Check.due("3: removeClause(0)", x.removeClause(0), 0);
        Check.due("3: removeClause(0)", x.removeClause(0), -2);
        Check.due("3: models()", x.models(), 1024);
        Check.due("3: undo()", x.undo(), 4);
        Check.due("3: clauses()", x.clauses(), 1);
        Check.due("3: clauseSize(0)", x.clauseSize(0), 3);
        Check.due("3: undo()", x.undo(), 3);
        Check.due("3: undo()", x.undo(), 2);
        Check.due("3: clauseSize(0)", x.clauseSize(0), 1);
        Check.due("3: undo()", x.undo(), 1);
        Check.due("3: clauseSize(1)", x.clauseSize(1), 2);
    }

    private static void clauses() {
        CnfCompiler x = new CnfCompiler();
        Check.due("4: clauses()", x.clauses(), 0);
        for (int i = 1; i <= 16; i++) {
            x.addClause(5, 0, 0, 0);
            Check.due("4: equal clauses count each", x.clauses(), i);
        }
        x.addClause(5, 0, 0, 0);
        Check.due("4: clauses()", x.clauses(), 16);
    }

    private static void clauseSize() {
        CnfCompiler x = with(c(-1), c(1, -2), c(1, 2, -3), c(-1, -2, -3, -10));
        for (int i = 0; i < 4; i++) {
            Check.due("5: clauseSize(" + i + ")", x.clauseSize(i), i + 1);
        }
        Check.due("5: clauseSize(4)", x.clauseSize(4), -2);
        Check.due("5: clauseSize(15)", x.clauseSize(15), -2);
        Check.due("5: clauseSize(-1)", x.clauseSize(-1), -2);
        Check.due("5: clauseSize(LOWEST)", x.clauseSize(LOWEST), -2);
        Check.due("5: clauseSize(HIGHEST)", x.clauseSize(HIGHEST), -2);
        Check.due("5: errorCount(-2)", x.errorCount(-2), 5);
        x.assume(1);
        Check.due("5: an assumption shortens no clause", x.clauseSize(3), 4);
    }

    private static void assume() {
        CnfCompiler x = new CnfCompiler();
        Check.due("6: assume(0)", x.assume(0), -2);
        Check.due("6: assume(11)", x.assume(11), -2);
        Check.due("6: assume(-11)", x.assume(-11), -2);
        Check.due("6: assume(LOWEST)", x.assume(LOWEST), -2);
        Check.due("6: assume(HIGHEST)", x.assume(HIGHEST), -2);
        for (int v = 1; v <= 10; v++) {
            int literal = v % 2 == 0 ? v : -v;
            Check.due("6: assume(" + literal + ")", x.assume(literal), v);
            Check.due("6: models()", x.models(), 1024 >> v);
            Check.due("6: assumed already", x.assume(literal), -3);
            Check.due("6: its opposite", x.assume(-literal), -3);
        }
        Check.due("6: errorCount(-2)", x.errorCount(-2), 5);
        Check.due("6: errorCount(-3)", x.errorCount(-3), 20);
        Check.due("6: leastModel()", x.leastModel(), 0x2AA);
        Check.due("6: undo()", x.undo(), 4);
        Check.due("6: assume(-10)", x.assume(-10), 10);
    }

    private static void retractAll() {
        CnfCompiler x = with(c(1, 2));
        x.assume(-1);
        x.assume(-2);
        Check.due("7: models()", x.models(), 0);
        Check.due("7: retractAll()", x.retractAll(), 2);
        Check.due("7: models()", x.models(), 768);
        Check.due("7: retractAll()", x.retractAll(), 0);
        Check.due("7: undo()", x.undo(), 4);
        Check.due("7: nothing assumed still", x.models(), 768);
        Check.due("7: undo()", x.undo(), 3);
        Check.due("7: both assumed again", x.models(), 0);
        Check.due("7: retractAll()", x.retractAll(), 2);
        Check.due("7: assume(-2)", x.assume(-2), 1);
    }

    private static void setWeight() {
        CnfCompiler x = new CnfCompiler();
        Check.due("8: setWeight(0, 1)", x.setWeight(0, 1), -2);
        Check.due("8: setWeight(11, 1)", x.setWeight(11, 1), -2);
        Check.due("8: setWeight(-11, 1)", x.setWeight(-11, 1), -2);
        Check.due("8: setWeight(1, -1)", x.setWeight(1, -1), -2);
        Check.due("8: setWeight(1, 10)", x.setWeight(1, 10), -2);
        Check.due("8: setWeight(LOWEST, 1)", x.setWeight(LOWEST, 1), -2);
        Check.due("8: setWeight(1, HIGHEST)", x.setWeight(1, HIGHEST), -2);
        Check.due("8: setWeight(0, 10)", x.setWeight(0, 10), -2);
        Check.due("8: errorCount(-2)", x.errorCount(-2), 8);
        Check.due("8: setWeight(10, 9)", x.setWeight(10, 9), 1);
        Check.due("8: setWeight(-10, 0)", x.setWeight(-10, 0), 1);
        Check.due("8: weightedCount()", x.weightedCount(), 512 * 9);
        Check.due("8: setWeight(10, 3)", x.setWeight(10, 3), 9);
        Check.due("8: setWeight(-10, 0)", x.setWeight(-10, 0), 0);
        Check.due("8: undo()", x.undo(), 3);
        Check.due("8: undo()", x.undo(), 2);
        Check.due("8: weightedCount()", x.weightedCount(), 512 * 9);
        Check.due("8: undo()", x.undo(), 1);
        Check.due("8: weightedCount()", x.weightedCount(), 512 * 10);
        Check.due("8: undo()", x.undo(), 0);
        Check.due("8: setWeight(10, 1)", x.setWeight(10, 1), 1);
        Check.due("8: models() does not see weights", x.models(), 1024);
    }

    private static void nodes() {
        CnfCompiler x = new CnfCompiler();
        Check.due("9: TRUE alone", x.nodes(), 1);
        x.addClause(1, 0, 0, 0);
        Check.due("9: one decision, TRUE, FALSE", x.nodes(), 3);
        x.addClause(-1, 0, 0, 0);
        Check.due("9: both children are FALSE", x.nodes(), 2);
        x.assume(1);
        Check.due("9: FALSE alone", x.nodes(), 1);
        Check.due("9: a clause of four", with(c(1, 2, 3, 4)).nodes(), 6);
        Check.due("9: equal clauses exist once", with(c(1, 2), c(2, 1), c(1, 2)).nodes(), 4);
        CnfCompiler satisfied = with(c(1, 2), c(1, 3));
        satisfied.assume(1);
        Check.due("9: all clauses removed", satisfied.nodes(), 1);
        // 1 set: {2},{3} and {-2},{-3} are AND nodes of four different unit nodes
        Check.due("9: {1 2}{1 3}{-1 -2}{-1 -3}",
                with(c(1, 2), c(1, 3), c(-1, -2), c(-1, -3)).nodes(), 9);
    }

    private static void sharedNodes() {
        // both children of 1 are the set {2 3}
        CnfCompiler x = with(c(1, 2, 3), c(-1, 2, 3));
        Check.due("9: equal residual formulas share", x.nodes(), 5);
        Check.due("10: equal residual formulas share", x.decisionNodes(), 3);
        Check.due("12: depth()", x.depth(), 3);
        // low: {2},{3} by two clauses; high: the same set by two others
        CnfCompiler y = with(c(1, 2), c(1, 3), c(-1, 2), c(-1, 3));
        Check.due("11: one AND node for both", y.andNodes(), 1);
        Check.due("10: root, {2}, {3}", y.decisionNodes(), 3);
        Check.due("9: nodes()", y.nodes(), 6);
        // the set {3} comes from {1 3} and from {-1 2 3} after 2 is false
        CnfCompiler z = with(c(1, 3), c(-1, 2, 3));
        Check.due("10: root, {3}, {2 3}", z.decisionNodes(), 3);
        Check.due("12: depth of the longer way", z.depth(), 3);
        // clauses that become equal exist once: 1 false leaves {2} alone
        Check.due("10: {1 2}{2} and {2}", with(c(1, 2), c(2)).decisionNodes(), 1);
        Check.due("10: {1 2}{1 -2} low has two clauses on 2", with(c(1, 2), c(1, -2)).decisionNodes(), 2);
    }

    private static void decisionNodes() {
        Check.due("10: no clause", new CnfCompiler().decisionNodes(), 0);
        Check.due("10: one literal", with(c(-7)).decisionNodes(), 1);
        Check.due("10: four literals", with(c(1, -2, 3, -4)).decisionNodes(), 4);
        Check.due("10: two units", with(c(1), c(2)).decisionNodes(), 2);
        CnfCompiler x = with(c(1, 2), c(3, 4));
        Check.due("10: two parts", x.decisionNodes(), 4);
        x.assume(-1);
        Check.due("10: an assumption sets a variable", x.decisionNodes(), 3);
        x.assume(-2);
        Check.due("10: FALSE", x.decisionNodes(), 0);
    }

    private static void andNodes() {
        Check.due("11: no clause", new CnfCompiler().andNodes(), 0);
        // one part through {2 3}; after 2 is false, {1} stands beside {3}{3 4}
        Check.due("11: connected through a third clause", with(c(1, 2), c(3, 4), c(2, 3)).andNodes(), 1);
        Check.due("11: a triangle never falls apart", with(c(1, 2), c(2, 3), c(1, 3)).andNodes(), 0);
        Check.due("11: three parts are one AND node", with(c(1), c(2), c(3)).andNodes(), 1);
        // 5 is in all clauses; low leaves {1},{2}, high satisfies nothing but leaves {3},{4}
        Check.due("11: below a decision", with(c(5, 1), c(5, 2), c(-5, 3), c(-5, 4)).andNodes(), 2);
        CnfCompiler x = with(c(1), c(2));
        x.assume(-1);
        Check.due("11: the empty clause makes it FALSE", x.andNodes(), 0);
        // 2 is decided first: low is {1} beside {3}{3 4}{4 5}; high decides 4, whose low is {3}{5}
        Check.due("11: {1 2}{2 3}{3 4}{4 5}", with(c(1, 2), c(2, 3), c(3, 4), c(4, 5)).andNodes(), 2);
    }

    private static void depth() {
        CnfCompiler x = new CnfCompiler();
        Check.due("12: TRUE", x.depth(), 0);
        x.addClause(3, 0, 0, 0);
        Check.due("12: a unit", x.depth(), 1);
        x.addClause(4, 0, 0, 0);
        Check.due("12: AND over units", x.depth(), 2);
        x.addClause(5, 6, 7, 8);
        Check.due("12: the deepest part", x.depth(), 5);
        x.assume(-3);
        Check.due("12: FALSE", x.depth(), 0);
        // 1 must hold, then 2, and so on: TRUE is reached below the tenth decision alone
        CnfCompiler chain = with(c(1), c(-1, 2), c(-2, 3), c(-3, 4), c(-4, 5), c(-5, 6), c(-6, 7), c(-7, 8),
                c(-8, 9), c(-9, 10));
        Check.due("12: ten decisions one below the other", chain.depth(), 10);
        Check.due("12: with TRUE and FALSE", chain.nodes(), 12);
        Check.due("12: one model", chain.models(), 1);
        // 1 true leaves {2 3}, of depth 2; 1 false leaves {2}{2 3}{3}: 2 true leaves {3}
        Check.due("12: a triangle", with(c(1, 2), c(2, 3), c(3, 1)).depth(), 3);
    }

    private static void rootVariable() {
        CnfCompiler x = new CnfCompiler();
        Check.due("13: TRUE", x.rootVariable(), -1);
        x.addClause(2, 9, 0, 0);
        Check.due("13: the lowest among equals", x.rootVariable(), 2);
        x.addClause(-9, 3, 0, 0);
        Check.due("13: the most clauses", x.rootVariable(), 9);
        x.addClause(5, 0, 0, 0);
        Check.due("13: AND", x.rootVariable(), 0);
        x.assume(5);
        Check.due("13: the part that remains", x.rootVariable(), 9);
        x.assume(9);
        Check.due("13: {3}", x.rootVariable(), 3);
        x.assume(3);
        Check.due("13: TRUE under assumptions", x.rootVariable(), -1);
        x.addClause(-5, -9, 0, 0);
        Check.due("13: FALSE", x.rootVariable(), -2);
        Check.due("13: no error", x.errorCount(-2), 0);
        Check.due("13: equal clauses count once",
                with(c(1, 2), c(1, 2), c(2, 3), c(3, 4), c(3, 5)).rootVariable(), 3);
        CnfCompiler y = with(c(1, -2), c(1, 2), c(1, -2, 3), c(3, 4), c(3, -5));
        y.assume(2);
        Check.due("13: counted in the residual formula", y.rootVariable(), 3);
        CnfCompiler z = with(c(1), c(2));
        z.assume(-2);
        Check.due("13: FALSE whatever else it contains", z.rootVariable(), -2);
    }

    private static void components() {
        CnfCompiler x = new CnfCompiler();
        Check.due("14: TRUE", x.components(), 0);
        x.addClause(1, 2, 0, 0);
        Check.due("14: a decision", x.components(), 1);
        x.addClause(3, 0, 0, 0);
        x.addClause(4, 0, 0, 0);
        Check.due("14: three", x.components(), 3);
        x.addClause(-3, -4, 0, 0);
        Check.due("14: two of them joined", x.components(), 2);
        x.assume(-2);
        Check.due("14: under an assumption", x.components(), 2);
        x.assume(1);
        Check.due("14: one part satisfied", x.components(), 1);
        x.assume(-3);
        Check.due("14: FALSE", x.components(), 0);
        CnfCompiler most = new CnfCompiler();
        for (int v = 1; v <= 10; v++) {
            most.addClause(-v, 0, 0, 0);
        }
        Check.due("14: ten", most.components(), 10);
        Check.due("14: joined at last", with(c(1, 2), c(3, 4), c(5, 6), c(6, 1, 4)).components(), 1);
    }

    private static void models() {
        Check.due("15: none out", new CnfCompiler().models(), 1024);
        Check.due("15: a unit", with(c(10)).models(), 512);
        Check.due("15: a negative unit", with(c(-1)).models(), 512);
        Check.due("15: a clause of four", with(c(1, -5, 7, -10)).models(), 960);
        Check.due("15: a contradiction", with(c(6), c(-6)).models(), 0);
        CnfCompiler x = new CnfCompiler();
        for (int v = 1; v <= 10; v++) {
            x.addClause(v % 3 == 0 ? -v : v, 0, 0, 0);
        }
        Check.due("15: one model", x.models(), 1);
        x.assume(3);
        Check.due("15: no model under the assumption", x.models(), 0);
    }

    private static void modelsWith() {
        CnfCompiler x = with(c(1, 2), c(-1, 3));
        Check.due("16: modelsWith(1)", x.modelsWith(1), 256);
        Check.due("16: modelsWith(-1)", x.modelsWith(-1), 256);
        Check.due("16: modelsWith(-3)", x.modelsWith(-3), 128);
        Check.due("16: modelsWith(10)", x.modelsWith(10), 256);
        x.assume(-3);
        Check.due("16: modelsWith(3)", x.modelsWith(3), 0);
        Check.due("16: modelsWith(-3)", x.modelsWith(-3), 128);
        Check.due("16: modelsWith(-10)", x.modelsWith(-10), 64);
        Check.due("16: modelsWith(0)", x.modelsWith(0), -2);
        Check.due("16: modelsWith(11)", x.modelsWith(11), -2);
        Check.due("16: modelsWith(-11)", x.modelsWith(-11), -2);
        Check.due("16: modelsWith(LOWEST)", x.modelsWith(LOWEST), -2);
        Check.due("16: modelsWith(HIGHEST)", x.modelsWith(HIGHEST), -2);
        Check.due("16: errorCount(-2)", x.errorCount(-2), 5);
    }

    private static void weightedCount() {
        CnfCompiler x = with(c(1, 2));
        x.setWeight(1, 2);
        x.setWeight(-1, 3);
        x.setWeight(2, 5);
        x.setWeight(-2, 7);
        Check.due("17: all but -1 -2", x.weightedCount(), (5 * 12 - 3 * 7) * 256);
        x.assume(-1);
        Check.due("17: under -1", x.weightedCount(), 3 * 5 * 256);
        x.setWeight(2, 0);
        Check.due("17: weight 0", x.weightedCount(), 0);
        CnfCompiler most = new CnfCompiler();
        long product = 1;
        for (int v = 1; v <= 10; v++) {
            most.setWeight(v, 9);
            most.setWeight(-v, 9);
            product *= 18;
        }
        Check.due("17: 18 to the 10th", most.weightedCount(), product);
        CnfCompiler each = new CnfCompiler();
        long weight = 1;
        for (int v = 1; v <= 10; v++) {
            each.addClause(v % 2 == 0 ? v : -v, 0, 0, 0);
            each.setWeight(v, (v + 3) % 9 + 1);
            each.setWeight(-v, v % 9 + 1);
            weight *= v % 2 == 0 ? (v + 3) % 9 + 1 : v % 9 + 1;
        }
        Check.due("17: of one model", each.weightedCount(), weight);
    }

    private static void shareBits() {
        CnfCompiler x = new CnfCompiler();
        for (int v = 1; v <= 10; v++) {
            Check.due("18: a power of two", x.shareBits(), Float.floatToIntBits((1024 >> (v - 1)) / 1024.0f));
            x.addClause(v, 0, 0, 0);
        }
        Check.due("18: 1 of 1024", x.shareBits(), Float.floatToIntBits(1 / 1024.0f));
        x.assume(-1);
        Check.due("18: 0", x.shareBits(), 0);
        Check.due("18: 768", with(c(1, 2)).shareBits(), Float.floatToIntBits(0.75f));
        Check.due("18: 960", with(c(1, 2, 3, 4)).shareBits(), Float.floatToIntBits(960 / 1024.0f));
        CnfCompiler y = with(c(1, 2, 3, 4), c(5, 6, 7), c(8, 9, -10, 1), c(-4, -7, 10));
        Check.due("18: an odd number", y.shareBits(), Float.floatToIntBits((float) y.models() / 1024.0f));
    }

    private static void implied() {
        CnfCompiler x = new CnfCompiler();
        Check.due("19: implied(1)", x.implied(1), 0);
        Check.due("19: implied(-1)", x.implied(-1), 0);
        x.addClause(10, 0, 0, 0);
        x.addClause(-10, -1, 0, 0);
        Check.due("19: implied(1)", x.implied(1), 512);
        Check.due("19: implied(-1)", x.implied(-1), 1);
        x.assume(5);
        Check.due("19: an assumed literal", x.implied(1), 512 + 16);
        x.assume(1);
        Check.due("19: no model", x.implied(1), 1023);
        Check.due("19: no model", x.implied(-1), 1023);
        Check.due("19: implied(0)", x.implied(0), -2);
        Check.due("19: implied(2)", x.implied(2), -2);
        Check.due("19: implied(-2)", x.implied(-2), -2);
        Check.due("19: implied(LOWEST)", x.implied(LOWEST), -2);
        Check.due("19: implied(HIGHEST)", x.implied(HIGHEST), -2);
        Check.due("19: errorCount(-2)", x.errorCount(-2), 5);
    }

    private static void leastModel() {
        CnfCompiler x = new CnfCompiler();
        Check.due("20: all false", x.leastModel(), 0);
        x.addClause(3, 10, 0, 0);
        Check.due("20: 3 is less than 10", x.leastModel(), 4);
        x.assume(-3);
        Check.due("20: 10", x.leastModel(), 512);
        x.addClause(-10, 7, 8, 0);
        Check.due("20: 10 and 7", x.leastModel(), 512 + 64);
        x.addClause(-10, -7, 0, 0);
        Check.due("20: 10 and 8", x.leastModel(), 512 + 128);
        x.addClause(-10, 0, 0, 0);
        Check.due("20: none", x.leastModel(), -1);
        Check.due("20: no error", x.errorCount(-2), 0);
        CnfCompiler all = new CnfCompiler();
        for (int v = 1; v <= 10; v++) {
            all.assume(v);
        }
        Check.due("20: all true", all.leastModel(), 1023);
    }

    private static void explain(String what, CnfCompiler x, int literal, int size, int... literals) {
        Check.due(what + ": size", x.explanation(literal, -1), size);
        for (int i = 0; i < 3; i++) {
            Check.due(what + ": element " + i, x.explanation(literal, i), i < literals.length ? literals[i] : 0);
        }
    }

    private static void explanation() {
        CnfCompiler x = with(c(4));
        explain("21: implied", x, 4, 0);
        explain("21: never true", x, -4, -1);
        explain("21: nothing explains a free variable", x, 7, -1);
        int[][] wrong = {{0, 0}, {11, 0}, {-11, 0}, {LOWEST, 0}, {HIGHEST, 0}, {1, -2}, {1, 3}, {1, LOWEST},
            {1, HIGHEST}, {0, 7}};
        for (int[] n : wrong) {
            Check.due("21: out of range", x.explanation(n[0], n[1]), -102);
        }
        Check.due("21: counted as -2", x.errorCount(-2), wrong.length);
        x.addClause(-4, 0, 0, 0);
        explain("21: no model", x, 4, -1);
        explain("21: no model", x, 7, -1);
        x.undo();
        explain("21: after undo", x, 4, 0);
        x.setWeight(4, 0);
        explain("21: weights do not matter", x, 4, 0);
    }

    private static void explanationOrder() {
        // each of 2, -3 and 9 alone explains 5; 1 with 4 does too
        CnfCompiler x = with(c(-1, -4, 5), c(-9, 5));
        explain("21: one before two", x, 5, 1, 9);
        x.addClause(3, 5, 0, 0);
        explain("21: -3 before 9", x, 5, 1, -3);
        x.addClause(-3, 5, 8, 0);
        explain("21: not yet implied", x, 5, 1, -3);
        x.addClause(-2, 5, 0, 0);
        explain("21: 2 before -3", x, 5, 1, 2);
        CnfCompiler y = with(c(-2, 5), c(2, 5, 7));
        explain("21: 2 alone", y, 5, 1, 2);
        explain("21: 7 needs both", y, 7, 1, -5);
        CnfCompiler z = with(c(-1, -8, 6), c(1, -2, 6), c(-3, -4, 6));
        explain("21: 1 8 before -1 2 and 3 4", z, 6, 2, 1, 8);
        z.removeClause(0);
        explain("21: -1 2 before 3 4", z, 6, 2, -1, 2);
        // -1 explains 10 only where it has a model
        CnfCompiler w = with(c(1), c(1, 10), c(-2, 10));
        explain("21: a set without a model is none", w, 10, 1, 2);
    }

    private static void explanationOfThree() {
        CnfCompiler x = with(c(1, -2, 3, -10));
        explain("21: three of a clause", x, -10, 3, -1, 2, -3);
        explain("21: three of a clause", x, 1, 3, 2, -3, 10);
        explain("21: the opposite is free", x, 10, -1);
        // 10 needs four literals: none
        CnfCompiler y = with(c(-1, -2, 9), c(-3, -4, 8), c(-9, -8, 10));
        explain("21: 8 9 explain 10", y, 10, 2, 8, 9);
        y.assume(9);
        explain("21: under 9", y, 10, 1, 8);
        y.assume(-8);
        explain("21: no longer", y, 10, -1);
        CnfCompiler four = with(c(-1, -2, 9), c(-3, -4, -9, 10));
        explain("21: 3 4 9", four, 10, 3, 3, 4, 9);
        four.addClause(-9, 5, 0, 0);
        four.addClause(-9, -5, 1, 0);
        four.addClause(-9, -5, -1, 0);
        explain("21: 9 has no model, so four would be needed", four, 10, -1);
    }

    private static void explanationUnderAssumptions() {
        CnfCompiler x = with(c(-1, 5), c(-2, 5), c(-3, -4, 6));
        x.assume(1);
        explain("21: implied by an assumption", x, 5, 0);
        explain("21: the assumed literal itself", x, 1, 0);
        explain("21: its opposite", x, -1, -1);
        explain("21: under 1", x, 6, 2, 3, 4);
        x.retractAll();
        x.assume(-1);
        explain("21: 1 is no candidate", x, 5, 1, 2);
        x.retractAll();
        explain("21: 1 again", x, 5, 1, 1);
        x.assume(3);
        explain("21: 3 is assumed, 4 remains", x, 6, 1, 4);
    }

    private static void append() {
        CnfCompiler x = new CnfCompiler();
        Check.due("22: append(0)", x.append(0), 1);
        Check.due("22: append(127)", x.append(127), 2);
        Check.due("22: append(128)", x.append(128), -2);
        Check.due("22: append(-1)", x.append(-1), -2);
        Check.due("22: append(LOWEST)", x.append(LOWEST), -2);
        Check.due("22: append(HIGHEST)", x.append(HIGHEST), -2);
        for (int i = 3; i <= 150; i++) {
            Check.due("22: append(32)", x.append(32), i);
        }
        Check.due("22: the 151st byte", x.append(32), -4);
        Check.due("22: range before full", x.append(128), -2);
        Check.due("22: errorCount(-2)", x.errorCount(-2), 5);
        Check.due("22: errorCount(-4)", x.errorCount(-4), 1);
        Check.due("22: not undoable", x.undo(), -5);
        Check.due("22: the length", x.clearText(), 150);
    }

    private static void clearText() {
        CnfCompiler x = new CnfCompiler();
        Check.due("23: clearText()", x.clearText(), 0);
        write(x, "1;");
        Check.due("23: clearText()", x.clearText(), 2);
        Check.due("23: clearText()", x.clearText(), 0);
        Check.due("23: parse()", x.parse(), 0);
        Check.due("23: append(49)", x.append(49), 1);
        Check.due("23: the text is the new one", x.parse(), -11);
        Check.due("23: undo() of parse alone", x.undo(), 0);
        Check.due("23: undo()", x.undo(), -5);
    }

    private static void parse() {
        CnfCompiler x = with(c(1));
        write(x, "-1 2;3 -4-5 10;");
        Check.due("24: parse()", x.parse(), 2);
        Check.due("24: clauses()", x.clauses(), 3);
        Check.due("24: clauseSize(1)", x.clauseSize(1), 2);
        Check.due("24: clauseSize(2)", x.clauseSize(2), 4);
        Check.due("24: models()", x.models(), 256 * 15 / 16);
        Check.due("24: the text stays", x.parse(), 2);
        Check.due("24: clauses()", x.clauses(), 5);
        Check.due("24: one state for all clauses", x.undo(), 2);
        Check.due("24: clauses()", x.clauses(), 3);
        write(x, "1;2;;");
        Check.due("24: a syntax error", x.parse(), -14);
        Check.due("24: nothing changes", x.clauses(), 3);
        Check.due("24: no state is saved", x.undo(), 1);
        for (int code = -5; code <= -2; code++) {
            Check.due("24: no error is counted", x.errorCount(code), 0);
        }
        write(x, "");
        Check.due("24: no clauses", x.parse(), 0);
        Check.due("24: is undoable as well", x.undo(), 1);
    }

    private static void undo() {
        CnfCompiler x = new CnfCompiler();
        Check.due("25: undo()", x.undo(), -5);
        Check.due("25: errorCount(-5)", x.errorCount(-5), 1);
        x.addClause(1, 2, 0, 0);
        x.assume(3);
        x.setWeight(1, 4);
        Check.due("25: weightedCount()", x.weightedCount(), 128 * (4 + 4 + 1));
        Check.due("25: the weight", x.undo(), 2);
        Check.due("25: weightedCount()", x.weightedCount(), 384);
        Check.due("25: the assumption", x.undo(), 1);
        Check.due("25: models()", x.models(), 768);
        Check.due("25: nodes()", x.nodes(), 4);
        Check.due("25: the clause", x.undo(), 0);
        Check.due("25: models()", x.models(), 1024);
        Check.due("25: nodes()", x.nodes(), 1);
        Check.due("25: undo()", x.undo(), -5);
        Check.due("25: a failed call saves nothing", x.addClause(0, 0, 0, 0), -2);
        Check.due("25: undo()", x.undo(), -5);
        x.setWeight(1, 1);
        Check.due("25: a call that changes nothing is saved", x.undo(), 0);
    }

    private static void undoIsBounded() {
        CnfCompiler x = new CnfCompiler();
        for (int i = 0; i < 8; i++) {
            x.addClause(i + 1, 0, 0, 0);
        }
        for (int i = 4; i >= 0; i--) {
            Check.due("25: undo()", x.undo(), i);
            Check.due("25: clauses()", x.clauses(), 3 + i);
        }
        Check.due("25: the oldest are dropped", x.undo(), -5);
        Check.due("25: clauses()", x.clauses(), 3);
        Check.due("25: the clauses of then", x.implied(1), 7);
        x.addClause(10, 0, 0, 0);
        x.removeClause(0);
        Check.due("25: undo()", x.undo(), 1);
        Check.due("25: implied(1)", x.implied(1), 512 + 7);
        Check.due("25: undo()", x.undo(), 0);
        Check.due("25: implied(1)", x.implied(1), 7);
    }

    private static void undoLeavesTheRest() {
        CnfCompiler x = new CnfCompiler();
        x.addClause(1, 0, 0, 0);
        write(x, "2;");
        x.assume(0);
        Check.due("25: undo()", x.undo(), 0);
        Check.due("25: the text is not undone", x.parse(), 1);
        Check.due("25: nor are the counters", x.errorCount(-2), 1);
        x.undo();
        x.setWeight(5, 6);
        x.undo();
        Check.due("25: undo is not undoable", x.undo(), -5);
    }

    private static void errorCount() {
        CnfCompiler x = new CnfCompiler();
        Check.due("26: errorCount(-1)", x.errorCount(-1), -2);
        Check.due("26: errorCount(-2)", x.errorCount(-2), 1);
        Check.due("26: errorCount(-6)", x.errorCount(-6), -2);
        Check.due("26: errorCount(0)", x.errorCount(0), -2);
        Check.due("26: errorCount(-102)", x.errorCount(-102), -2);
        Check.due("26: errorCount(LOWEST)", x.errorCount(LOWEST), -2);
        Check.due("26: errorCount(HIGHEST)", x.errorCount(HIGHEST), -2);
        Check.due("26: errorCount(-2)", x.errorCount(-2), 6);
        x.addClause(1, 1, 0, 0);
        x.undo();
        x.undo();
        Check.due("26: errorCount(-3)", x.errorCount(-3), 1);
        Check.due("26: errorCount(-4)", x.errorCount(-4), 0);
        Check.due("26: errorCount(-5)", x.errorCount(-5), 2);
        x.explanation(0, 0);
        Check.due("26: -102 is counted as -2", x.errorCount(-2), 7);
        // a literal -2 and the answers of rootVariable and leastModel are no errors
        x.addClause(2, 3, 0, 0);
        Check.due("26: explanation(3, 0)", x.explanation(3, 0), -2);
        Check.due("26: errorCount(-2)", x.errorCount(-2), 7);
    }

    private static void errorsChangeNothing() {
        CnfCompiler x = with(c(1, 2), c(-2, 3, 4));
        x.assume(5);
        x.setWeight(3, 7);
        write(x, "1 2;");
        CnfCompiler y = with(c(1, 2), c(-2, 3, 4));
        y.assume(5);
        y.setWeight(3, 7);
        write(y, "1 2;");
        x.addClause(0, 1, 0, 0);
        x.removeClause(2);
        x.clauseSize(2);
        x.assume(11);
        x.setWeight(3, 10);
        x.modelsWith(0);
        x.implied(0);
        x.explanation(0, 0);
        x.append(128);
        x.errorCount(0);
        for (int i = 0; i < 10; i++) {
            y.errorCount(0);
        }
        Check.due("errors change the counter alone", x.digest(), y.digest());
        x.assume(-5);
        y.addClause(1, 1, 0, 0);
        Check.due("conflicts change the counter alone", x.digest(), y.digest());
        Check.due("undo()", x.undo(), 3);
        Check.due("weight before the last success", x.setWeight(3, 1), 1);
    }

    private static long hash(long... values) {
        long h = 2671;
        for (long v : values) {
            h = 31 * h + v;
        }
        return h;
    }

    private static void digest() {
        CnfCompiler x = new CnfCompiler();
        Check.due("27: a new object", x.digest(), hash(0, 0, 0, 0, 0, 0, 0,
                1, 1, 1, 1, 1, 1, 1, 1, 1, 1, 1, 1, 1, 1, 1, 1, 1, 1, 1, 1,
                1, 0, 0, 0, -1, 0, 1024, 1024, 0, 0));
        x.undo();
        x.undo();
        x.undo();
        x.undo();
        x.addClause(1, -1, 0, 0);
        x.errorCount(0);
        x.errorCount(0);
        x.addClause(1, 2, 0, 0);
        x.addClause(3, 4, 5, 0);
        x.addClause(6, 0, 0, 0);
        x.assume(6);
        x.assume(-1);
        x.setWeight(2, 3);
        x.setWeight(-10, 0);
        x.append(49);
        // {2} and {3 4 5}: an AND node over 1 and 3 decision nodes, and both leaves
        Check.due("27: after calls", x.digest(), hash(2, 1, 0, 4, 1, 3, 2, 3, 1, 2,
                1, 1, 3, 1, 1, 1, 1, 1, 1, 1, 1, 1, 1, 1, 1, 1, 1, 1, 1, 0,
                7, 4, 1, 4, 0, 2, 7 * 16, 7 * 8 * 3, 2 + 4 + 32, 5));
        for (int i = 0; i < 150; i++) {
            x.append(59);
        }
        Check.due("27: FULL and the text", x.digest(), hash(2, 1, 1, 4, 150, 3, 2, 3, 1, 2,
                1, 1, 3, 1, 1, 1, 1, 1, 1, 1, 1, 1, 1, 1, 1, 1, 1, 1, 1, 0,
                7, 4, 1, 4, 0, 2, 7 * 16, 7 * 8 * 3, 2 + 4 + 32, 5));
        x.addClause(-2, 0, 0, 0);
        Check.due("27: without a model", x.digest(), hash(2, 1, 1, 4, 150, 4, 2, 3, 1, 1, 2,
                1, 1, 3, 1, 1, 1, 1, 1, 1, 1, 1, 1, 1, 1, 1, 1, 1, 1, 1, 0,
                7, 4, 1, 4, 0, 2, 0, 0, -1, 5));
        Check.due("27: twice the same", x.digest(), x.digest());
    }
}
