import java.util.ArrayList;
import java.util.List;

/** What can be seen of an object beside its counters. Looking at all of it uses the object up. */
final class Sight {
    private static final int MOST_STATES = 6;
    private static final int[] EXPLAINED = {1, -2, 3, 10};

    private Sight() {
    }

    /** The formula, the assumptions and the weights, of now and of each saved state, and the text. */
    static List<Long> all(CnfCompiler x) {
        List<Long> seen = new ArrayList<>();
        for (int i = 0; i < MOST_STATES; i++) {
            seen.addAll(present(x));
            seen.add((long) x.undo());
        }
        seen.add((long) x.parse());
        seen.addAll(present(x));
        seen.add((long) x.clearText());
        for (int literal = -10; literal <= 10; literal++) {
            seen.add((long) x.setWeight(literal, 1));
        }
        seen.add((long) x.retractAll());
        return seen;
    }

    /** The formula, the assumptions and the weights of now; this changes nothing. */
    static List<Long> present(CnfCompiler x) {
        List<Long> seen = new ArrayList<>();
        long[] answers = {x.clauses(), x.nodes(), x.decisionNodes(), x.andNodes(), x.depth(), x.rootVariable(),
            x.components(), x.models(), x.weightedCount(), x.shareBits(), x.implied(1), x.implied(-1),
            x.leastModel()};
        for (long answer : answers) {
            seen.add(answer);
        }
        long clauses = answers[0];
        for (int i = 0; i < clauses; i++) {
            seen.add((long) x.clauseSize(i));
        }
        for (int v = 1; v <= 10; v++) {
            seen.add((long) x.modelsWith(v));
        }
        for (int literal : EXPLAINED) {
            seen.add((long) x.explanation(literal, 0));
        }
        return seen;
    }

    static List<Long> counters(CnfCompiler x) {
        List<Long> seen = new ArrayList<>();
        for (int code = -2; code >= -5; code--) {
            seen.add((long) x.errorCount(code));
        }
        return seen;
    }
}
