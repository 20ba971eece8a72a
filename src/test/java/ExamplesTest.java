/** The five examples of the document's 'Description'. */
public final class ExamplesTest {
    private ExamplesTest() {
    }

    public static void main(String[] args) {
        decisionGraphOfTwoClauses();
        twoComponents();
        smallestExplanations();
        assumptionsWithoutModel();
        syntaxError();
        Check.finish();
    }

    private static void decisionGraphOfTwoClauses() {
        CnfCompiler x = new CnfCompiler();
        Check.due("1: addClause(1, 2, 0, 0)", x.addClause(1, 2, 0, 0), 0);
        Check.due("1: addClause(-1, 3, 0, 0)", x.addClause(-1, 3, 0, 0), 1);
        Check.due("1: models()", x.models(), 512);
        Check.due("1: nodes()", x.nodes(), 5);
        Check.due("1: decisionNodes()", x.decisionNodes(), 3);
        Check.due("1: depth()", x.depth(), 2);
        Check.due("1: rootVariable()", x.rootVariable(), 1);
        Check.due("1: modelsWith(3)", x.modelsWith(3), 384);
    }

    private static void twoComponents() {
        CnfCompiler x = new CnfCompiler();
        Check.due("2: addClause(1, 2, 0, 0)", x.addClause(1, 2, 0, 0), 0);
        Check.due("2: addClause(3, 4, 0, 0)", x.addClause(3, 4, 0, 0), 1);
        Check.due("2: components()", x.components(), 2);
        Check.due("2: andNodes()", x.andNodes(), 1);
        Check.due("2: nodes()", x.nodes(), 7);
        Check.due("2: models()", x.models(), 576);
    }

    private static void smallestExplanations() {
        CnfCompiler x = new CnfCompiler();
        Check.due("3: addClause(-1, 2, 0, 0)", x.addClause(-1, 2, 0, 0), 0);
        Check.due("3: addClause(-2, 3, 0, 0)", x.addClause(-2, 3, 0, 0), 1);
        Check.due("3: explanation(3, -1)", x.explanation(3, -1), 1);
        Check.due("3: explanation(3, 0)", x.explanation(3, 0), 1);
        Check.due("3: explanation(-1, 0)", x.explanation(-1, 0), -2);
    }

    private static void assumptionsWithoutModel() {
        CnfCompiler x = new CnfCompiler();
        Check.due("4: addClause(1, 0, 0, 0)", x.addClause(1, 0, 0, 0), 0);
        Check.due("4: assume(-1)", x.assume(-1), 1);
        Check.due("4: models()", x.models(), 0);
        Check.due("4: leastModel()", x.leastModel(), -1);
        Check.due("4: rootVariable()", x.rootVariable(), -2);
        Check.due("4: assume(1)", x.assume(1), -3);
    }

    private static void syntaxError() {
        CnfCompiler x = new CnfCompiler();
        Check.due("5: clearText()", x.clearText(), 0);
        int[] bytes = {49, 32, 45, 50, 59, 50, 32, 50, 59};
        for (int i = 0; i < bytes.length; i++) {
            Check.due("5: append(" + bytes[i] + ")", x.append(bytes[i]), i + 1);
        }
        Check.due("5: parse()", x.parse(), -17);
        Check.due("5: clauses()", x.clauses(), 0);
    }
}
