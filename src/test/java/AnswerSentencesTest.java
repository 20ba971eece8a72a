/** The sentences of promises 9 to 21, one by one: the graph, counting and explanations. */
public final class AnswerSentencesTest {
    private static final int[] NO_LITERALS = {-11, 0, 11, -12, 12, 127, -128, Make.LOWEST, Make.LOWEST + 1,
        Make.HIGHEST};
    /** 16 clauses with a graph close to the largest that a search has found. */
    private static final int[][] LARGE = {
        {1, 3, 9, 8}, {-1, -10, -4, -3}, {-5, 7, 1, 0}, {5, -10, -7, -6}, {4, -6, -10, 8}, {-5, 10, 2, -6},
        {2, -7, -9, 0}, {-4, -6, 1, 3}, {-10, -3, 6, 8}, {-2, 7, 4, 5}, {9, 3, -10, -2}, {5, 2, 10, -8},
        {-1, -9, -8, 4}, {-3, 6, 9, 2}, {1, -9, -3, 5}, {-4, -9, 8, 7}
    };

    private AnswerSentencesTest() {
    }

    public static void main(String[] args) {
        Check.all(AnswerSentencesTest::nodes, AnswerSentencesTest::decisionNodes, AnswerSentencesTest::andNodes,
                AnswerSentencesTest::largestGraph, AnswerSentencesTest::depth,
                AnswerSentencesTest::rootVariableOfADecision, AnswerSentencesTest::rootVariableOfOtherNodes,
                AnswerSentencesTest::componentsOfAnAndNode, AnswerSentencesTest::componentsOfOtherNodes,
                AnswerSentencesTest::models, AnswerSentencesTest::modelsWith, AnswerSentencesTest::modelsWithRange,
                AnswerSentencesTest::weightedCount, AnswerSentencesTest::share, AnswerSentencesTest::shareBits,
                AnswerSentencesTest::impliedInEveryModel, AnswerSentencesTest::implied,
                AnswerSentencesTest::impliedWithoutAModel, AnswerSentencesTest::impliedRange,
                AnswerSentencesTest::leastModel, AnswerSentencesTest::leastModelNone,
                AnswerSentencesTest::explanationIndex, AnswerSentencesTest::explanationSize,
                AnswerSentencesTest::explanationLiterals, AnswerSentencesTest::explanationRange,
                AnswerSentencesTest::explanationLiteralsAreNoErrors, AnswerSentencesTest::explanationErrorAlone,
                AnswerSentencesTest::explanationIsOfNow);
        Check.finish();
    }

    private static int[] c(int... literals) {
        return literals;
    }

    /** Each of ten variables alone in a clause. */
    private static CnfCompiler tenUnits() {
        CnfCompiler x = new CnfCompiler();
        for (int v = 1; v <= 10; v++) {
            x.addClause(v, 0, 0, 0);
        }
        return x;
    }

    // ---- the graph

    private static void nodes() {
        Check.sentence(9, "Returns the number of different nodes; all FALSE nodes count as one.");
        Check.due("TRUE", new CnfCompiler().nodes(), 1);
        Check.due("FALSE", Make.assuming(Make.with(c(1)), -1).nodes(), 1);
        Check.due("root, TRUE, FALSE", Make.with(c(1)).nodes(), 3);
        Check.due("root, FALSE", Make.with(c(1), c(-1)).nodes(), 2);
        Check.due("{1 2}, {2}, TRUE, FALSE", Make.with(c(1, 2)).nodes(), 4);
        Check.due("{2 3} is one", Make.with(c(1, 2, 3), c(-1, 2, 3)).nodes(), 5);
        Check.due("two different FALSE nodes", Make.with(c(1), c(1, 5), c(-1), c(-1, 6)).nodes(), 2);
        Check.due("AND, ten units, TRUE, FALSE", tenUnits().nodes(), 13);
        // a graph without a TRUE node, and one without a FALSE node, on an object that had both
        CnfCompiler x = Make.with(c(1), c(-1), c(2), c(9, 10));
        Check.due("AND, {1}{-1}, {2}, {9 10}, {10}, TRUE, FALSE", x.nodes(), 7);
        x.removeClause(3);
        x.addClause(-2, 0, 0, 0);
        Check.due("AND, {1}{-1}, {2}{-2}, FALSE", x.nodes(), 4);
        x.removeClause(1);
        x.removeClause(1);
        x.removeClause(1);
        x.assume(1);
        Check.due("TRUE alone", x.nodes(), 1);
    }

    private static void decisionNodes() {
        Check.sentence(10, "Returns the number of different decision nodes.");
        Check.due("TRUE", new CnfCompiler().decisionNodes(), 0);
        Check.due("FALSE", Make.assuming(Make.with(c(1)), -1).decisionNodes(), 0);
        Check.due("{1}", Make.with(c(1)).decisionNodes(), 1);
        Check.due("one after the other", Make.with(c(1, 2, 3, 4)).decisionNodes(), 4);
        Check.due("{2 3} is one", Make.with(c(1, 2, 3), c(-1, 2, 3)).decisionNodes(), 3);
        Check.due("ten units", tenUnits().decisionNodes(), 10);
    }

    private static void andNodes() {
        Check.sentence(11, "Returns the number of different AND nodes.");
        Check.due("TRUE", new CnfCompiler().andNodes(), 0);
        Check.due("FALSE", Make.assuming(Make.with(c(1), c(2)), -1).andNodes(), 0);
        Check.due("{1 2}", Make.with(c(1, 2)).andNodes(), 0);
        Check.due("{1}{2}", Make.with(c(1), c(2)).andNodes(), 1);
        Check.due("ten parts", tenUnits().andNodes(), 1);
        Check.due("{2}{3} is one", Make.with(c(1, 2), c(1, 3), c(-1, 2), c(-1, 3)).andNodes(), 1);
        Check.due("{2}{3} and {2}{-3}", Make.with(c(1, 2), c(1, 3), c(-1, 2), c(-1, -3)).andNodes(), 2);
        // 1 is decided; 1 false leaves {2}{3 4}{3 5}, of which 3 false leaves {4}{5}
        Check.due("an AND node below another", Make.with(c(1, 2), c(1, 3, 4), c(1, 3, 5)).andNodes(), 2);
    }

    private static void largestGraph() {
        Check.sentence(9, "Returns the number of nodes of the graph.");
        CnfCompiler x = new CnfCompiler();
        Reference due = new Reference();
        for (int[] n : LARGE) {
            x.addClause(n[0], n[1], n[2], n[3]);
            due.addClause(n[0], n[1], n[2], n[3]);
            Check.due("nodes()", x.nodes(), due.nodes());
            Check.due("decisionNodes()", x.decisionNodes(), due.decisionNodes());
            Check.due("andNodes()", x.andNodes(), due.andNodes());
            Check.due("depth()", x.depth(), due.depth());
        }
        x.undo();
        due.undo();
        Check.due("a smaller one after it", x.nodes(), due.nodes());
    }

    private static void depth() {
        Check.sentence(12, "Returns the depth of the root.");
        Check.due("TRUE", new CnfCompiler().depth(), 0);
        Check.due("FALSE", Make.assuming(Make.with(c(1, 2)), -1, -2).depth(), 0);
        Check.due("a decision of FALSE nodes", Make.with(c(1), c(-1)).depth(), 1);
        Check.due("AND of units", tenUnits().depth(), 2);
        Check.due("the deeper child", Make.with(c(1, 2), c(-1, 3, 4, 5)).depth(), 4);
        Check.due("the deeper part", Make.with(c(1, 2, 3), c(4), c(5, 6)).depth(), 4);
    }

    private static void rootVariableOfADecision() {
        Check.sentence(13, "Returns the variable if the root is a decision node");
        for (int v = 1; v <= 10; v++) {
            Check.due("{" + v + "}", Make.with(c(v)).rootVariable(), v);
            Check.due("{" + -v + "}", Make.with(c(-v)).rootVariable(), v);
        }
        Check.due("the lowest", Make.with(c(10, -3, 4)).rootVariable(), 3);
        Check.due("the one in most", Make.with(c(10, -3, 4), c(-10, 5)).rootVariable(), 10);
    }

    private static void rootVariableOfOtherNodes() {
        Check.sentence(13, "0 if it is an AND node, -1 if it is the TRUE node, -2 if it is a FALSE node (these are no"
                + " errors).");
        CnfCompiler x = new CnfCompiler();
        Check.due("TRUE", x.rootVariable(), -1);
        x.addClause(1, 0, 0, 0);
        x.addClause(2, 0, 0, 0);
        Check.due("AND", x.rootVariable(), 0);
        x.assume(-2);
        Check.due("FALSE", x.rootVariable(), -2);
        Check.due("FALSE again", x.rootVariable(), -2);
        for (int code = -5; code <= -2; code++) {
            Check.due("errorCount(" + code + ")", x.errorCount(code), 0);
        }
        CnfCompiler satisfied = Make.assuming(Make.with(c(1, 2), c(-3, 1)), 1);
        Check.due("TRUE by an assumption", satisfied.rootVariable(), -1);
        // no model, yet the root is a decision node
        Check.due("{1}{-1}", Make.with(c(1), c(-1)).rootVariable(), 1);
    }

    private static void componentsOfAnAndNode() {
        Check.sentence(14, "Returns the number of children of the root if it is an AND node");
        CnfCompiler x = new CnfCompiler();
        x.addClause(1, 0, 0, 0);
        for (int v = 2; v <= 10; v++) {
            x.addClause(v, 0, 0, 0);
            Check.due(v + " units", x.components(), v);
        }
        x.addClause(-1, -2, -3, -4);
        Check.due("four of them joined", x.components(), 7);
        x.addClause(-5, -6, -7, -8);
        Check.due("four more", x.components(), 4);
        x.addClause(-9, -10, 0, 0);
        Check.due("and the last two", x.components(), 3);
        x.addClause(4, 5, 8, 9);
        Check.due("all joined", x.components(), 1);
        x.removeClause(13);
        Check.due("three again", x.components(), 3);
        CnfCompiler parted = Make.with(c(1), c(2), c(1, 2));
        Check.due("joined by {1 2}", parted.components(), 1);
        parted.removeClause(2);
        Check.due("without {1 2}", parted.components(), 2);
        Check.due("children, not clauses", Make.with(c(1, 2), c(2, 3), c(4, 5), c(4)).components(), 2);
    }

    private static void componentsOfOtherNodes() {
        Check.sentence(14, "otherwise 1 if it is a decision node and 0 if it is a FALSE or the TRUE node.");
        Check.due("TRUE", new CnfCompiler().components(), 0);
        Check.due("{1}", Make.with(c(1)).components(), 1);
        Check.due("{1 2}{2 3}", Make.with(c(1, 2), c(2, 3)).components(), 1);
        Check.due("{1}{-1}", Make.with(c(1), c(-1)).components(), 1);
        Check.due("FALSE", Make.assuming(Make.with(c(1)), -1).components(), 0);
        Check.due("FALSE beside two parts", Make.assuming(Make.with(c(1), c(2), c(3)), -1).components(), 0);
        Check.due("TRUE by an assumption", Make.assuming(Make.with(c(1)), 1).components(), 0);
    }

    // ---- counting

    private static void models() {
        Check.sentence(15, "Returns the number of models, 0 to 1024.");
        Check.due("all", new CnfCompiler().models(), 1024);
        Check.due("none", Make.with(c(1), c(-1)).models(), 0);
        Check.due("none under the assumption", Make.assuming(Make.with(c(1)), -1).models(), 0);
        Check.due("one", tenUnits().models(), 1);
        for (int v = 1; v <= 10; v++) {
            Check.due("half", Make.with(c(v)).models(), 512);
            Check.due("the other half", Make.with(c(-v)).models(), 512);
        }
        Check.due("15 of 16", Make.with(c(4, -7, 1, -10)).models(), 960);
        Check.due("assumed all but one", Make.assuming(new CnfCompiler(), 1, 2, 3, 4, 5, 6, 7, 8, 9).models(), 2);
    }

    private static void modelsWith() {
        Check.sentence(16, "Counts the models under the assumptions in which a literal is true.");
        CnfCompiler x = Make.with(c(1, 10));
        for (int v = 2; v <= 9; v++) {
            Check.due("modelsWith(" + v + ")", x.modelsWith(v), 384);
            Check.due("modelsWith(" + -v + ")", x.modelsWith(-v), 384);
        }
        Check.due("modelsWith(1)", x.modelsWith(1), 512);
        Check.due("modelsWith(-1)", x.modelsWith(-1), 256);
        Check.due("modelsWith(10)", x.modelsWith(10), 512);
        Check.due("modelsWith(-10)", x.modelsWith(-10), 256);
        x.assume(-1);
        Check.due("modelsWith(1)", x.modelsWith(1), 0);
        Check.due("modelsWith(-1)", x.modelsWith(-1), 256);
        Check.due("modelsWith(10)", x.modelsWith(10), 256);
        Check.due("modelsWith(-10)", x.modelsWith(-10), 0);
        x.assume(-10);
        Check.due("no model", x.modelsWith(5), 0);
        Check.due("it assumes nothing", x.retractAll(), 2);
    }

    private static void modelsWithRange() {
        Check.sentence(16, "OUT_OF_RANGE if literal is 0, less than -10 or greater than 10.");
        CnfCompiler x = new CnfCompiler();
        for (int number : NO_LITERALS) {
            Check.due("modelsWith(" + number + ")", x.modelsWith(number), -2);
        }
        Check.due("errorCount(-2)", x.errorCount(-2), NO_LITERALS.length);
        Check.due("modelsWith(10)", x.modelsWith(10), 512);
        Check.due("modelsWith(-10)", x.modelsWith(-10), 512);
        Check.due("modelsWith(1)", x.modelsWith(1), 512);
        Check.due("modelsWith(-1)", x.modelsWith(-1), 512);
    }

    private static void weightedCount() {
        Check.sentence(17, "Returns the weighted count.");
        Check.due("all weights 1", new CnfCompiler().weightedCount(), 1024);
        Check.due("no model", Make.with(c(1), c(-1)).weightedCount(), 0);
        CnfCompiler x = new CnfCompiler();
        for (int v = 1; v <= 10; v++) {
            x.setWeight(v, 9);
            x.setWeight(-v, 9);
        }
        Check.due("18 to the 10th", x.weightedCount(), 3570467226624L);
        x.addClause(1, 2, 3, 4);
        Check.due("15 of 16 of it", x.weightedCount(), 3570467226624L / 16 * 15);
        x.assume(1);
        Check.due("half of it all", x.weightedCount(), 3570467226624L / 2);
        x.setWeight(1, 0);
        Check.due("nothing of it", x.weightedCount(), 0);
        x.undo();
        Check.due("half of it all again", x.weightedCount(), 3570467226624L / 2);
    }

    private static void share() {
        Check.sentence(18, "the number of models, converted to float, divided by 1024.0f.");
        Check.due("1.0f", new CnfCompiler().shareBits(), 0x3F800000);
        Check.due("0.5f", Make.with(c(1)).shareBits(), 0x3F000000);
        Check.due("0.75f", Make.with(c(1, 2)).shareBits(), 0x3F400000);
        Check.due("0.0f", Make.assuming(Make.with(c(1)), -1).shareBits(), 0);
        Check.due("1.0f / 1024", tenUnits().shareBits(), 0x3A800000);
        Check.due("under an assumption", Make.assuming(new CnfCompiler(), 1, 2).shareBits(), 0x3E800000);
    }

    private static void shareBits() {
        Check.sentence(18, "Returns the bits of the float as Float.floatToIntBits gives them.");
        Check.due("1024", new CnfCompiler().shareBits(), Float.floatToIntBits(1.0f));
        Check.due("0", Make.with(c(1), c(-1)).shareBits(), Float.floatToIntBits(0.0f));
        Check.due("1", tenUnits().shareBits(), Float.floatToIntBits(1 / 1024.0f));
        Check.due("960", Make.with(c(1, 2, 3, 4)).shareBits(), Float.floatToIntBits(960 / 1024.0f));
        CnfCompiler x = new CnfCompiler();
        for (int v = 1; v <= 10; v++) {
            x.assume(v);
            Check.due("a power of two", x.shareBits(), Float.floatToIntBits((float) (1024 >> v) / 1024.0f));
        }
        // three of four, in ever fewer assignments
        CnfCompiler y = Make.with(c(1, 2));
        for (int v = 3; v <= 10; v++) {
            y.assume(v);
            Check.due("three times", y.shareBits(), Float.floatToIntBits((float) (768 >> (v - 2)) / 1024.0f));
        }
        CnfCompiler z = Make.assuming(Make.with(c(1, 2, 3, 4)), 5, 6, 7, 8, 9, 10);
        Check.due("15", z.shareBits(), Float.floatToIntBits(15 / 1024.0f));
        CnfCompiler large = new CnfCompiler();
        for (int[] n : LARGE) {
            large.addClause(n[0], n[1], n[2], n[3]);
            Check.due("of models()", large.shareBits(), Float.floatToIntBits((float) large.models() / 1024.0f));
        }
    }

    private static void impliedInEveryModel() {
        Check.sentence(19, "those that are true in every model under the assumptions.");
        CnfCompiler x = Make.assuming(Make.with(c(1, 2, 3)), 4, 5, 6, 7, 8, 9, 10);
        Check.due("3 in 4 of 7: implied(1)", x.implied(1), 1016);
        x.addClause(-1, 3, 0, 0);
        x.addClause(-2, 3, 0, 0);
        Check.due("3 in all 4: implied(1)", x.implied(1), 1016 + 4);
        Check.due("and no negative one", x.implied(-1), 0);
        x.retractAll();
        Check.due("3 alone without assumptions", x.implied(1), 4);
    }

    private static void implied() {
        Check.sentence(19, "Returns a bit set in which bit v - 1 stands for variable v");
        for (int v = 1; v <= 10; v++) {
            Check.due("{" + v + "}, 1", Make.with(c(v)).implied(1), 1 << (v - 1));
            Check.due("{" + v + "}, -1", Make.with(c(v)).implied(-1), 0);
            Check.due("{" + -v + "}, 1", Make.with(c(-v)).implied(1), 0);
            Check.due("{" + -v + "}, -1", Make.with(c(-v)).implied(-1), 1 << (v - 1));
        }
        Check.due("none", new CnfCompiler().implied(1), 0);
        Check.due("none", new CnfCompiler().implied(-1), 0);
        Check.due("all ten", tenUnits().implied(1), 1023);
        Check.due("all ten", tenUnits().implied(-1), 0);
        CnfCompiler x = Make.with(c(1, 2), c(1, -2), c(-1, -10));
        Check.due("not by a unit", x.implied(1), 1);
        Check.due("by another", x.implied(-1), 512);
        Check.due("an assumed one", Make.assuming(new CnfCompiler(), -4).implied(-1), 8);
    }

    private static void impliedWithoutAModel() {
        Check.sentence(19, "1023 if there is no model");
        CnfCompiler x = Make.with(c(1), c(-1));
        Check.due("implied(1)", x.implied(1), 1023);
        Check.due("implied(-1)", x.implied(-1), 1023);
        CnfCompiler y = Make.assuming(Make.with(c(1, 2)), -1, -2);
        Check.due("implied(1)", y.implied(1), 1023);
        Check.due("implied(-1)", y.implied(-1), 1023);
        Check.due("one model", tenUnits().implied(-1), 0);
    }

    private static void impliedRange() {
        Check.sentence(19, "OUT_OF_RANGE if sign is neither 1 nor -1.");
        CnfCompiler x = Make.with(c(1), c(-1));
        for (int sign : c(0, 2, -2, 3, -3, 10, -10, Make.LOWEST, Make.HIGHEST)) {
            Check.due("implied(" + sign + ")", x.implied(sign), -2);
        }
        Check.due("errorCount(-2)", x.errorCount(-2), 9);
    }

    private static void leastModel() {
        Check.sentence(20, "Returns the model that is the least number if bit v - 1 is 1 for each true variable v");
        Check.due("all false", new CnfCompiler().leastModel(), 0);
        for (int v = 1; v <= 10; v++) {
            Check.due("{" + v + "}", Make.with(c(v)).leastModel(), 1 << (v - 1));
            Check.due("{" + -v + "}", Make.with(c(-v)).leastModel(), 0);
        }
        Check.due("all true", tenUnits().leastModel(), 1023);
        Check.due("1 2 3 4 5 6 are less than 7", Make.with(c(1, 7), c(2, 7), c(3, 7), c(4, 7), c(5, 7), c(6, 7))
                .leastModel(), 63);
        Check.due("9 is less than 10", Make.with(c(10, 9)).leastModel(), 256);
        Check.due("under an assumption", Make.assuming(Make.with(c(10, 9)), -9).leastModel(), 512);
    }

    private static void leastModelNone() {
        Check.sentence(20, "NONE if there is no model.");
        CnfCompiler x = Make.with(c(1), c(-1));
        Check.due("leastModel()", x.leastModel(), -1);
        Check.due("under an assumption", Make.assuming(Make.with(c(1)), -1).leastModel(), -1);
        for (int code = -5; code <= -2; code++) {
            Check.due("errorCount(" + code + ")", x.errorCount(code), 0);
        }
        x.removeClause(1);
        Check.due("a model again", x.leastModel(), 1);
    }

    // ---- explanations

    private static void explanationIndex() {
        Check.sentence(21, "index of the element, 0 for the first one, or -1 for the number of elements");
        CnfCompiler x = Make.with(c(-4, -5, -6, 10));
        int[] due = {-102, 3, 4, 5, 6, -102};
        for (int index = -2; index <= 3; index++) {
            Check.due("explanation(10, " + index + ")", x.explanation(10, index), due[index + 2]);
        }
    }

    private static void explanationSize() {
        Check.sentence(21, "Returns for index -1 the number of literals of the smallest explanation, or NONE if there is"
                + " no explanation");
        Check.due("implied", Make.with(c(10)).explanation(10, -1), 0);
        Check.due("one", Make.with(c(1, 10)).explanation(10, -1), 1);
        Check.due("two", Make.with(c(1, 2, 10)).explanation(10, -1), 2);
        Check.due("three", Make.with(c(1, 2, 3, 10)).explanation(10, -1), 3);
        Check.due("never true", Make.with(c(-10)).explanation(10, -1), -1);
        Check.due("free", new CnfCompiler().explanation(10, -1), -1);
        Check.due("no model", Make.with(c(1), c(-1)).explanation(10, -1), -1);
        CnfCompiler x = new CnfCompiler();
        x.explanation(10, -1);
        Check.due("NONE is no error", x.errorCount(-2), 0);
    }

    private static void elements(CnfCompiler x, int literal, int first, int second, int third) {
        Check.due("explanation(" + literal + ", 0)", x.explanation(literal, 0), first);
        Check.due("explanation(" + literal + ", 1)", x.explanation(literal, 1), second);
        Check.due("explanation(" + literal + ", 2)", x.explanation(literal, 2), third);
    }

    private static void explanationLiterals() {
        Check.sentence(21, "otherwise the literal, or 0 if the explanation has not so many elements or does not exist");
        elements(Make.with(c(10)), 10, 0, 0, 0);
        elements(Make.with(c(-1, 10)), 10, 1, 0, 0);
        elements(Make.with(c(-1, 2, 10)), 10, 1, -2, 0);
        elements(Make.with(c(-1, 2, -3, 10)), 10, 1, -2, 3);
        elements(Make.with(c(1, -8, 9, -10)), 1, 8, -9, 10);
        elements(Make.with(c(-10)), 10, 0, 0, 0);
        elements(new CnfCompiler(), -10, 0, 0, 0);
        elements(Make.with(c(1), c(-1)), 1, 0, 0, 0);
        // asked for from the last one, and with another literal between
        CnfCompiler x = Make.with(c(-1, 2, -3, 10), c(-4, 5));
        Check.due("explanation(10, 2)", x.explanation(10, 2), 3);
        Check.due("explanation(5, 0)", x.explanation(5, 0), 4);
        Check.due("explanation(10, 1)", x.explanation(10, 1), -2);
        Check.due("explanation(5, 1)", x.explanation(5, 1), 0);
    }

    private static void explanationRange() {
        Check.sentence(21, "OUT_OF_RANGE if literal is 0, less than -10 or greater than 10, or index is less than -1 or"
                + " greater than 2.");
        CnfCompiler x = Make.with(c(1, 2, 3, 10));
        int refused = 0;
        for (int index = -1; index <= 2; index++) {
            for (int number : NO_LITERALS) {
                Check.due("explanation(" + number + ", " + index + ")", x.explanation(number, index), -102);
                refused++;
            }
        }
        for (int index : c(-2, 3, 4, -3, -102, Make.LOWEST, Make.HIGHEST)) {
            Check.due("explanation(10, " + index + ")", x.explanation(10, index), -102);
            Check.due("explanation(0, " + index + ")", x.explanation(0, index), -102);
            refused += 2;
        }
        Check.due("errorCount(-2)", x.errorCount(-2), refused);
        Check.due("explanation(10, -1)", x.explanation(10, -1), 3);
        Check.due("explanation(10, 2)", x.explanation(10, 2), -3);
        Check.due("explanation(-10, 2)", x.explanation(-10, 2), 0);
    }

    private static void explanationLiteralsAreNoErrors() {
        Check.sentence(21, "(Results from -10 to -1 for an index of 0 to 2 are literals.)");
        for (int v = 1; v <= 9; v++) {
            CnfCompiler x = Make.with(c(v, 10));
            Check.due("explanation(10, 0)", x.explanation(10, 0), -v);
            for (int code = -5; code <= -2; code++) {
                Check.due("errorCount(" + code + ")", x.errorCount(code), 0);
            }
        }
        CnfCompiler x = Make.with(c(1, 10));
        Check.due("-10", x.explanation(1, 0), -10);
        CnfCompiler y = Make.with(c(1, 2, 3, 10));
        elements(y, 10, -1, -2, -3);
        Check.due("errorCount(-2)", y.errorCount(-2), 0);
        Check.due("errorCount(-3)", y.errorCount(-3), 0);
    }

    private static void explanationErrorAlone() {
        Check.sentence(21, "For this method alone OUT_OF_RANGE is returned as -102.");
        CnfCompiler x = new CnfCompiler();
        Check.due("explanation(0, 0)", x.explanation(0, 0), -102);
        Check.due("explanation(1, 3)", x.explanation(1, 3), -102);
        Check.due("modelsWith(0)", x.modelsWith(0), -2);
        Check.due("assume(0)", x.assume(0), -2);
        Check.due("addClause(0, 0, 0, 0)", x.addClause(0, 0, 0, 0), -2);
        Check.due("removeClause(0)", x.removeClause(0), -2);
        Check.due("clauseSize(0)", x.clauseSize(0), -2);
        Check.due("setWeight(0, 0)", x.setWeight(0, 0), -2);
        Check.due("implied(0)", x.implied(0), -2);
        Check.due("append(-1)", x.append(-1), -2);
        Check.due("errorCount(0)", x.errorCount(0), -2);
        Check.due("all are counted as -2", x.errorCount(-2), 11);
    }

    /** The answer of one call may not outlive the formula that it was given for. */
    private static void explanationIsOfNow() {
        Check.sentence(21, "Returns a literal of the smallest explanation of a literal.");
        CnfCompiler x = Make.with(c(-1, 10));
        Check.due("explanation(10, 0)", x.explanation(10, 0), 1);
        x.addClause(10, 0, 0, 0);
        Check.due("after addClause", x.explanation(10, 0), 0);
        x.removeClause(1);
        Check.due("after removeClause", x.explanation(10, 0), 1);
        x.assume(-1);
        Check.due("after assume", x.explanation(10, 0), 0);
        x.retractAll();
        Check.due("after retractAll", x.explanation(10, 0), 1);
        Make.parse(x, "10;");
        Check.due("after parse", x.explanation(10, -1), 0);
        x.undo();
        Check.due("after undo", x.explanation(10, -1), 1);
        x.setWeight(1, 0);
        Check.due("after setWeight", x.explanation(10, 0), 1);
    }
}
