/** The description's sentences on formulas, assumptions, residual formulas and the graph, one by one. */
public final class FormulaSentencesTest {
    private FormulaSentencesTest() {
    }

    public static void main(String[] args) {
        Check.all(FormulaSentencesTest::calls512, FormulaSentencesTest::tenVariables, FormulaSentencesTest::literals,
                FormulaSentencesTest::signs, FormulaSentencesTest::clauseSizes,
                FormulaSentencesTest::satisfiedClauses, FormulaSentencesTest::sixteenClauses,
                FormulaSentencesTest::equalClauses, FormulaSentencesTest::models, FormulaSentencesTest::assumptions,
                FormulaSentencesTest::modelsUnderAssumptions, FormulaSentencesTest::clausesThatAreRemoved,
                FormulaSentencesTest::literalsThatAreRemoved, FormulaSentencesTest::clausesThatBecomeEqual,
                FormulaSentencesTest::clausesThatBecomeEmpty, FormulaSentencesTest::initialResidualFormula,
                FormulaSentencesTest::equalResidualFormulas, FormulaSentencesTest::root,
                FormulaSentencesTest::falseNodes, FormulaSentencesTest::falseNodesAreOne,
                FormulaSentencesTest::trueNode, FormulaSentencesTest::connectedClauses,
                FormulaSentencesTest::andNodes, FormulaSentencesTest::variableOfADecision,
                FormulaSentencesTest::bothChildren, FormulaSentencesTest::depths);
        Check.finish();
    }

    private static int[] c(int... literals) {
        return literals;
    }

    private static void calls512() {
        Check.sentence(0, "An object is used for at most 512 calls after it has been made");
        CnfCompiler x = new CnfCompiler();
        for (int i = 0; i < 255; i++) {
            Check.due("addClause", x.addClause(1, 2, 0, 0), 0);
            Check.due("removeClause", x.removeClause(0), 0);
        }
        Check.due("the 511th call", x.addClause(1, 2, 0, 0), 0);
        Check.due("the 512th call", x.models(), 768);
        CnfCompiler refused = new CnfCompiler();
        for (int i = 0; i < 511; i++) {
            Check.due("assume(0)", refused.assume(0), -2);
        }
        Check.due("the 512th call", refused.errorCount(-2), 511);
        CnfCompiler full = Make.withEqualClauses(16);
        for (int i = 16; i < 511; i++) {
            Check.due("addClause", full.addClause(3, 0, 0, 0), -4);
        }
        Check.due("the 512th call", full.errorCount(-4), 495);
        CnfCompiler written = new CnfCompiler();
        for (int i = 0; i < 511; i++) {
            Check.due("append(32)", written.append(32), i < 150 ? i + 1 : -4);
        }
        Check.due("the 512th call", written.parse(), 0);
    }

    private static void tenVariables() {
        Check.sentence(0, "There are 10 variables, numbered 1 to 10.");
        Check.due("assignments", new CnfCompiler().models(), 1 << 10);
        CnfCompiler x = new CnfCompiler();
        for (int v = 1; v <= 10; v++) {
            Check.due("addClause(" + v + ", 0, 0, 0)", x.addClause(v, 0, 0, 0), v - 1);
            Check.due("models()", x.models(), 1024 >> v);
        }
        Check.due("addClause(11, 0, 0, 0)", x.addClause(11, 0, 0, 0), -2);
        Check.due("addClause(-11, 0, 0, 0)", x.addClause(-11, 0, 0, 0), -2);
        Check.due("assume(11)", x.assume(11), -2);
    }

    private static void literals() {
        Check.sentence(0, "A literal is a number from -10 to 10 that is not 0");
        for (int literal = -10; literal <= 10; literal++) {
            boolean is = literal != 0;
            CnfCompiler x = new CnfCompiler();
            String of = " of " + literal;
            Check.due("addClause" + of, x.addClause(literal, 0, 0, 0), is ? 0 : -2);
            Check.due("assume" + of, x.assume(literal), is ? 1 : -2);
            Check.due("setWeight" + of, x.setWeight(literal, 2), is ? 1 : -2);
            Check.due("modelsWith" + of, x.modelsWith(literal), is ? 512 : -2);
            Check.due("explanation" + of, x.explanation(literal, -1), is ? 0 : -102);
        }
        for (int number : c(-11, 11, -12, 12, 100, -100, Make.LOWEST, Make.LOWEST + 1, Make.HIGHEST)) {
            CnfCompiler x = new CnfCompiler();
            String of = " of " + number;
            Check.due("addClause, a" + of, x.addClause(number, 0, 0, 0), -2);
            Check.due("addClause, b" + of, x.addClause(1, number, 0, 0), -2);
            Check.due("addClause, c" + of, x.addClause(1, 2, number, 0), -2);
            Check.due("addClause, d" + of, x.addClause(1, 2, 3, number), -2);
            Check.due("assume" + of, x.assume(number), -2);
            Check.due("setWeight" + of, x.setWeight(number, 2), -2);
            Check.due("modelsWith" + of, x.modelsWith(number), -2);
            Check.due("explanation" + of, x.explanation(number, -1), -102);
        }
    }

    private static void signs() {
        Check.sentence(0, "v stands for \"variable v is true\" and -v for \"variable v is false\".");
        for (int v : c(1, 6, 7, 10)) {
            Check.due("implied(1) of " + v, Make.with(c(v)).implied(1), 1 << (v - 1));
            Check.due("implied(-1) of " + v, Make.with(c(v)).implied(-1), 0);
            Check.due("implied(1) of " + -v, Make.with(c(-v)).implied(1), 0);
            Check.due("implied(-1) of " + -v, Make.with(c(-v)).implied(-1), 1 << (v - 1));
        }
    }

    private static void clauseSizes() {
        Check.sentence(0, "A clause is a set of 1 to 4 literals with different variables");
        CnfCompiler x = Make.with(c(1), c(1, 2), c(1, 2, 3), c(1, 2, 3, 4));
        for (int i = 0; i < 4; i++) {
            Check.due("clauseSize(" + i + ")", x.clauseSize(i), i + 1);
        }
        Check.due("no literal", x.addClause(0, 0, 0, 0), -2);
        Check.due("a literal twice", x.addClause(-3, 2, -3, 0), -3);
        Check.due("a literal and its opposite", x.addClause(-3, 2, 3, 0), -3);
        Check.due("no literal in the text", Make.parse(x, ";"), -10);
        Check.due("five literals in the text", Make.parse(x, "1 2 3 4 5;"), -18);
        // the order of the literals is nothing to a set
        CnfCompiler turned = Make.with(c(1, 2, 3), c(3, 1, 2), c(2, 3, 1));
        Check.due("the same set three times", turned.nodes(), 5);
    }

    private static void satisfiedClauses() {
        Check.sentence(0, "it is satisfied if at least one of its literals is true.");
        CnfCompiler x = Make.with(c(1, -2, 3, -10));
        Check.due("all but the one of 16", x.models(), 15 * 64);
        int[] opposites = c(-1, 2, -3, 10);
        for (int alone = 0; alone < 4; alone++) {
            CnfCompiler y = Make.with(c(1, -2, 3, -10));
            for (int i = 0; i < 4; i++) {
                y.assume(i == alone ? -opposites[i] : opposites[i]);
            }
            Check.due("one literal true", y.models(), 64);
        }
        Check.due("none true", Make.assuming(x, opposites).models(), 0);
    }

    private static void sixteenClauses() {
        Check.sentence(0, "The formula is a list of at most 16 clauses, numbered from 0");
        CnfCompiler x = new CnfCompiler();
        for (int i = 0; i < 16; i++) {
            Check.due("addClause", x.addClause(i % 10 + 1, 0, 0, 0), i);
        }
        Check.due("the 17th", x.addClause(1, 0, 0, 0), -4);
        Check.due("the 17th by text", Make.parse(x, "1;"), -10);
        Check.due("clauses()", x.clauses(), 16);
        Check.due("clauseSize(0)", x.clauseSize(0), 1);
        Check.due("clauseSize(15)", x.clauseSize(15), 1);
        Check.due("clauseSize(16)", x.clauseSize(16), -2);
        Check.due("clauseSize(-1)", x.clauseSize(-1), -2);
        Check.due("sixteen by text", Make.parse(new CnfCompiler(), "1;".repeat(16)), 16);
        Check.due("seventeen by text", Make.parse(new CnfCompiler(), "1;".repeat(17)), -42);
    }

    private static void equalClauses() {
        Check.sentence(0, "equal clauses may occur several times.");
        CnfCompiler x = new CnfCompiler();
        for (int i = 0; i < 16; i++) {
            Check.due("addClause(3, -4, 0, 0)", x.addClause(3, -4, 0, 0), i);
        }
        Check.due("models()", x.models(), 768);
        for (int left = 15; left >= 1; left--) {
            Check.due("removeClause(0)", x.removeClause(0), left);
            Check.due("models()", x.models(), 768);
        }
        Check.due("the last of them", x.removeClause(0), 0);
        Check.due("models()", x.models(), 1024);
    }

    private static void models() {
        Check.sentence(0,
                "A model is an assignment of true or false to all 10 variables that satisfies every clause.");
        Check.due("no clause", new CnfCompiler().models(), 1024);
        CnfCompiler x = new CnfCompiler();
        for (int v = 1; v <= 10; v++) {
            x.addClause(v % 2 == 0 ? v : -v, 0, 0, 0);
        }
        Check.due("one model", x.models(), 1);
        Check.due("the model", x.leastModel(), 0b1010101010);
        Check.due("a clause that it does not satisfy", x.addClause(1, 3, 5, -10), 10);
        Check.due("none", x.models(), 0);
        // the last of 16 clauses counts as the first does
        CnfCompiler last = Make.withEqualClauses(15);
        last.addClause(-2, 0, 0, 0);
        Check.due("1 and -2", last.models(), 256);
    }

    private static void assumptions() {
        Check.sentence(0, "The assumptions are a set of literals with different variables (initially empty).");
        CnfCompiler x = new CnfCompiler();
        Check.due("models()", x.models(), 1024);
        Check.due("retractAll()", x.retractAll(), 0);
        for (int v = 10; v >= 1; v--) {
            Check.due("assume(" + -v + ")", x.assume(-v), 11 - v);
            Check.due("assume(" + -v + ") again", x.assume(-v), -3);
            Check.due("assume(" + v + ")", x.assume(v), -3);
        }
        Check.due("all ten", x.retractAll(), 10);
    }

    private static void modelsUnderAssumptions() {
        Check.sentence(0, "The models under the assumptions are the models in which all assumed literals are true.");
        CnfCompiler x = Make.with(c(1, 2, 3));
        x.assume(-1);
        Check.due("2 or 3", x.models(), 384);
        x.assume(10);
        Check.due("and 10", x.models(), 192);
        x.assume(-2);
        Check.due("and 3", x.models(), 64);
        x.assume(-3);
        Check.due("no model", x.models(), 0);
        CnfCompiler all = Make.assuming(new CnfCompiler(), 1, -2, 3, -4, 5, -6, 7, -8, 9, -10);
        Check.due("all assumed", all.models(), 1);
        Check.due("the one model", all.leastModel(), 0b0101010101);
        Check.due("an assumption is no clause", all.clauses(), 0);
    }

    private static void clausesThatAreRemoved() {
        Check.sentence(0, "Setting a literal to true in a set of clauses removes each clause that contains the literal");
        CnfCompiler one = Make.assuming(Make.with(c(1, 2), c(1, 3), c(4, 5)), 1);
        Check.due("{4 5} remains: nodes()", one.nodes(), 4);
        Check.due("rootVariable()", one.rootVariable(), 4);
        CnfCompiler all = Make.assuming(Make.with(c(1, 2), c(1, 3), c(-4, 1)), 1);
        Check.due("nothing remains: nodes()", all.nodes(), 1);
        Check.due("rootVariable()", all.rootVariable(), -1);
        CnfCompiler other = Make.assuming(Make.with(c(2, 3)), 1);
        Check.due("a variable of no clause: nodes()", other.nodes(), 4);
    }

    private static void literalsThatAreRemoved() {
        Check.sentence(0, "and removes the opposite literal from the other clauses.");
        CnfCompiler x = Make.with(c(1, 2, 3, 4));
        for (int v = 1; v <= 3; v++) {
            x.assume(-v);
            Check.due("decisionNodes()", x.decisionNodes(), 4 - v);
            Check.due("rootVariable()", x.rootVariable(), v + 1);
        }
        CnfCompiler parted = Make.assuming(Make.with(c(-1, 2), c(-1, 3)), 1);
        Check.due("{2}{3}: components()", parted.components(), 2);
    }

    private static void clausesThatBecomeEqual() {
        Check.sentence(0, "The result is again a set of clauses (equal ones exist once)");
        // {8 1} is there once: 8 and 5 are in two clauses each, so 5 is the lowest
        CnfCompiler x = Make.with(c(1, 8), c(1, 8, 9), c(8, 5), c(5, 7));
        Check.due("8 is in three", x.rootVariable(), 8);
        x.assume(-9);
        Check.due("8 is in two, as 5", x.rootVariable(), 5);
        CnfCompiler y = Make.assuming(Make.with(c(1, 2, 3), c(1, 2, 4)), -3, -4);
        Check.due("{1 2}: nodes()", y.nodes(), 4);
        // 1 false leaves {2 3} once, which is a part of what 1 true leaves, {2 3}{4}{5}
        CnfCompiler below = Make.with(c(1, 2, 3), c(2, 3), c(-1, 4), c(-1, 5));
        Check.due("rootVariable()", below.rootVariable(), 1);
        Check.due("root, {2 3}, {3}, {4}, {5}", below.decisionNodes(), 5);
    }

    private static void clausesThatBecomeEmpty() {
        Check.sentence(0, "a clause can become empty.");
        CnfCompiler x = Make.assuming(Make.with(c(1)), -1);
        Check.due("nodes()", x.nodes(), 1);
        Check.due("rootVariable()", x.rootVariable(), -2);
        CnfCompiler four = Make.assuming(Make.with(c(1, 2, 3, 4)), -1, -2, -3);
        Check.due("not yet", four.rootVariable(), 4);
        four.assume(-4);
        Check.due("with the last literal", four.rootVariable(), -2);
        Check.due("an empty clause below a decision", Make.with(c(1), c(-1)).models(), 0);
    }

    private static void initialResidualFormula() {
        Check.sentence(0, "The initial residual formula is the set of the clauses of the formula in which all assumed"
                + " literals have been set to true.");
        // {1 2} counts once, so 3 is in the most clauses
        Check.due("a set: rootVariable()", Make.with(c(1, 2), c(2, 1), c(2, 3), c(3, 4), c(3, 5)).rootVariable(), 3);
        Check.due("no clause: rootVariable()", new CnfCompiler().rootVariable(), -1);
        CnfCompiler x = Make.assuming(Make.with(c(1, 2, 3), c(-4, 5, 6)), -1, 4, -2, -5);
        Check.due("{3}{6}: components()", x.components(), 2);
        Check.due("{3}{6}: nodes()", x.nodes(), 5);
        CnfCompiler all = Make.assuming(Make.with(c(1, 2)), 1, 2, 3, 4, 5, 6, 7, 8, 9, 10);
        Check.due("all assumed: rootVariable()", all.rootVariable(), -1);
    }

    private static void equalResidualFormulas() {
        Check.sentence(0, "equal residual formulas are the same node.");
        Check.due("{2 3} twice", Make.with(c(1, 2, 3), c(-1, 2, 3)).nodes(), 5);
        // 1 false leaves {3}; 1 true leaves {2 3}, and {3} a step further down
        CnfCompiler x = Make.with(c(1, 3), c(-1, 2, 3));
        Check.due("root, {3}, {2 3}, TRUE, FALSE", x.nodes(), 5);
        // the AND node {2}{3} is on both sides of 1
        CnfCompiler parted = Make.with(c(1, 2), c(1, 3), c(-1, 2), c(-1, 3));
        Check.due("one AND node", parted.andNodes(), 1);
        Check.due("nodes()", parted.nodes(), 6);
        // {9 10} is a part of what 1 false leaves, and all that 1 true leaves
        CnfCompiler part = Make.with(c(1, 2), c(1, 9, 10), c(-1, 9, 10));
        Check.due("root, {2}, {9 10}, {10}", part.decisionNodes(), 4);
        Check.due("with {2}{9 10}, TRUE, FALSE", part.nodes(), 7);
        // formulas that differ in a sign alone are different nodes
        for (int v = 2; v <= 10; v++) {
            Check.due("root, {v}, {-v}, TRUE, FALSE", Make.with(c(1, v), c(-1, -v)).nodes(), 5);
            for (int w = v + 1; w <= 10; w++) {
                Check.due("root, {v w}, {-v w}, {w}, TRUE, FALSE", Make.with(c(1, v, w), c(-1, -v, w)).nodes(), 6);
                Check.due("with {-w}", Make.with(c(1, v, w), c(-1, v, -w)).nodes(), 7);
            }
        }
    }

    private static void root() {
        Check.sentence(0, "The procedure starts with the initial residual formula, which is the root.");
        CnfCompiler x = Make.with(c(6, 7), c(7, 8));
        Check.due("rootVariable()", x.rootVariable(), 7);
        Check.due("components()", x.components(), 1);
        Check.due("depth()", x.depth(), 3);
        x.assume(-7);
        Check.due("{6}{8}: rootVariable()", x.rootVariable(), 0);
        Check.due("{6}{8}: depth()", x.depth(), 2);
    }

    private static void falseNodes() {
        Check.sentence(0, "If a residual formula contains the empty clause, its node is a FALSE node, whatever else it"
                + " contains");
        CnfCompiler x = Make.assuming(Make.with(c(2, 3), c(3, 4), c(1), c(5, 6), c(7)), -1);
        Check.due("rootVariable()", x.rootVariable(), -2);
        Check.due("components()", x.components(), 0);
        Check.due("nodes()", x.nodes(), 1);
        Check.due("decisionNodes()", x.decisionNodes(), 0);
        Check.due("andNodes()", x.andNodes(), 0);
        Check.due("depth()", x.depth(), 0);
        // without the rule {2 3}{3 4} would be explored below 1 false
        CnfCompiler below = Make.with(c(1), c(1, 2, 3), c(1, 3, 4));
        Check.due("below a decision: nodes()", below.nodes(), 3);
        Check.due("below a decision: depth()", below.depth(), 1);
    }

    private static void falseNodesAreOne() {
        Check.sentence(0, "all FALSE nodes together count as one node.");
        // 1 false leaves the empty clause and {3}; 1 true leaves {2}, whose low is the empty clause alone
        CnfCompiler x = Make.with(c(1), c(-1, 2), c(1, 3));
        Check.due("rootVariable()", x.rootVariable(), 1);
        Check.due("root, {2}, TRUE, FALSE", x.nodes(), 4);
        Check.due("1 and -1: root and FALSE", Make.with(c(1), c(-1)).nodes(), 2);
        // 1 false leaves {}{5}, 1 true {}{6}
        CnfCompiler y = Make.with(c(1), c(1, 5), c(-1), c(-1, 6));
        Check.due("root and FALSE", y.nodes(), 2);
    }

    private static void trueNode() {
        Check.sentence(0, "Otherwise, if it has no clauses, its node is the TRUE node.");
        CnfCompiler x = new CnfCompiler();
        Check.due("nodes()", x.nodes(), 1);
        Check.due("rootVariable()", x.rootVariable(), -1);
        Check.due("components()", x.components(), 0);
        // TRUE is reached on four ways, and is one node
        Check.due("root, {2 3 4}, {3 4}, {4}, TRUE, FALSE", Make.with(c(1, 2, 3, 4)).nodes(), 6);
        CnfCompiler emptied = Make.with(c(1, 2));
        emptied.removeClause(0);
        Check.due("the only clause removed: nodes()", emptied.nodes(), 1);
    }

    private static void connectedClauses() {
        Check.sentence(0, "two clauses are connected if they have a variable in common, directly or through other"
                + " clauses of the residual formula.");
        Check.due("directly", Make.with(c(1, 2), c(2, 3)).components(), 1);
        Check.due("by opposite literals", Make.with(c(1, 2), c(-2, 3)).components(), 1);
        Check.due("by opposite literals: andNodes()", Make.with(c(1, 2), c(-2, 3)).andNodes(), 0);
        Check.due("through a later clause", Make.with(c(1, 2), c(3, 4), c(2, 3)).components(), 1);
        Check.due("not at all", Make.with(c(1, 2), c(3, 4)).components(), 2);
        CnfCompiler chain = Make.with(c(1, 2), c(9, 10), c(3, 4), c(7, 8), c(5, 6), c(8, 9), c(2, 3), c(6, 7), c(4, 5));
        Check.due("through all nine", chain.components(), 1);
        Check.due("removeClause(4)", chain.removeClause(4), 8);
        Check.due("without {5 6}", chain.components(), 2);
        // from 1 to 10, and from there down to 2
        CnfCompiler back = Make.with(c(1), c(1, -10), c(10, 9), c(9, 8), c(8, 7), c(7, 6), c(6, 5), c(5, 4), c(4, 3),
                c(3, 2));
        Check.due("back through all ten: components()", back.components(), 1);
        Check.due("back through all ten: rootVariable()", back.rootVariable(), 1);
        // an assumption takes the common variable out
        Check.due("2 is set", Make.assuming(Make.with(c(1, 2), c(2, 3)), -2).components(), 2);
    }

    private static void andNodes() {
        Check.sentence(0, "If not all clauses are connected, the node is an AND node, and its children are the nodes of"
                + " the sets of connected clauses.");
        CnfCompiler two = Make.with(c(1, 2), c(3, 4));
        Check.due("andNodes()", two.andNodes(), 1);
        Check.due("components()", two.components(), 2);
        Check.due("nodes()", two.nodes(), 7);
        CnfCompiler ten = new CnfCompiler();
        for (int v = 1; v <= 10; v++) {
            ten.addClause(v, 0, 0, 0);
        }
        Check.due("ten parts: components()", ten.components(), 10);
        Check.due("ten parts: andNodes()", ten.andNodes(), 1);
        Check.due("ten parts: nodes()", ten.nodes(), 13);
        Check.due("all connected", Make.with(c(1, 2), c(2, 3), c(1, 3)).andNodes(), 0);
        // 5 false leaves {1}{2 3}, 5 true leaves {4}{6}
        CnfCompiler below = Make.with(c(5, 1), c(5, 2, 3), c(-5, 4), c(-5, 6));
        Check.due("below a decision: andNodes()", below.andNodes(), 2);
        // 1, {1}, {2 3}, {3}, {4}, {6} are decided, the root too
        Check.due("below a decision: decisionNodes()", below.decisionNodes(), 6);
    }

    private static void variableOfADecision() {
        Check.sentence(0, "Otherwise the node is a decision node on the variable that occurs in the most clauses of the"
                + " residual formula (the lowest number among equals).");
        Check.due("one each", Make.with(c(10, 9, 8, 7)).rootVariable(), 7);
        Check.due("1 among equals", Make.with(c(10, 1)).rootVariable(), 1);
        Check.due("10 in two of them", Make.with(c(10, 1), c(10, 2)).rootVariable(), 10);
        Check.due("with either sign", Make.with(c(-10, 1), c(10, 2)).rootVariable(), 10);
        Check.due("two each", Make.with(c(9, 10), c(-9, -10)).rootVariable(), 9);
        Check.due("10 alone", Make.with(c(-10)).rootVariable(), 10);
        // counted anew in each residual formula: 4 false leaves {5}{5 6}{6 7}, not 4's count of the whole
        CnfCompiler x = Make.assuming(Make.with(c(4, 5), c(4, 6), c(4, 7), c(5, 6), c(6, 7)), 4);
        Check.due("{5 6}{6 7}", x.rootVariable(), 6);
    }

    private static void bothChildren() {
        Check.sentence(0, "the low child is the node of the residual formula after setting the variable to false, the"
                + " high child the one after setting it to true.");
        // low {2 3 4}, high {5}
        CnfCompiler x = Make.with(c(1, 2, 3, 4), c(-1, 5));
        Check.due("decisionNodes()", x.decisionNodes(), 5);
        Check.due("depth()", x.depth(), 4);
        // low {5}, high {2 3 4}
        CnfCompiler y = Make.with(c(-1, 2, 3, 4), c(1, 5));
        Check.due("decisionNodes()", y.decisionNodes(), 5);
        Check.due("depth()", y.depth(), 4);
        Check.due("a unit: FALSE and TRUE", Make.with(c(1)).nodes(), 3);
        Check.due("a negative unit: TRUE and FALSE", Make.with(c(-1)).nodes(), 3);
    }

    private static void depths() {
        Check.sentence(0, "The depth of a FALSE or TRUE node is 0; the depth of another node is 1 more than the greatest"
                + " depth of its children.");
        Check.due("TRUE", new CnfCompiler().depth(), 0);
        Check.due("FALSE", Make.assuming(Make.with(c(1)), -1).depth(), 0);
        Check.due("a unit", Make.with(c(1)).depth(), 1);
        Check.due("two literals", Make.with(c(1, 2)).depth(), 2);
        Check.due("AND of depths 1 and 4", Make.with(c(1), c(2, 3, 4, 5)).depth(), 5);
        Check.due("AND of depths 4 and 1", Make.with(c(1, 2, 3, 4), c(5)).depth(), 5);
        CnfCompiler chain = Make.with(c(1), c(-1, 2), c(-2, 3), c(-3, 4), c(-4, 5), c(-5, 6), c(-6, 7), c(-7, 8),
                c(-8, 9), c(-9, 10));
        Check.due("a decision on each variable", chain.depth(), 10);
        Check.due("with TRUE and FALSE below the tenth", chain.nodes(), 12);
    }
}
