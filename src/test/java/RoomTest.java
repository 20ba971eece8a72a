import com.sun.management.ThreadMXBean;
import java.lang.management.ManagementFactory;

/** Calls use the rows of their object again: a run makes little beside the objects themselves. */
public final class RoomTest {
    private static final int CALLS = 512;
    /** Some 200 nodes, close to the most that a search has found. */
    private static final int[][] LARGE = {
        {1, 3, 9, 8}, {-1, -10, -4, -3}, {-5, 7, 1, 0}, {5, -10, -7, -6}, {4, -6, -10, 8}, {-5, 10, 2, -6},
        {2, -7, -9, 0}, {-4, -6, 1, 3}, {-10, -3, 6, 8}, {-2, 7, 4, 5}, {9, 3, -10, -2}, {5, 2, 10, -8},
        {-1, -9, -8, 4}, {-3, 6, 9, 2}, {1, -9, -3, 5}, {-4, -9, 8, 7}
    };
    private static final ThreadMXBean THREADS = (ThreadMXBean) ManagementFactory.getThreadMXBean();

    private RoomTest() {
    }

    public static void main(String[] args) {
        largeGraphAsTheReferenceHasIt();
        // the first round also pays for loading the classes
        dearestRun(new CnfCompiler());
        CnfCompiler x = new CnfCompiler();
        long before = allocated();
        dearestRun(x);
        long made = allocated() - before;
        Check.that("a run of 512 calls makes " + made + " bytes, fewer than 60,000", made < 60_000);
        before = allocated();
        CnfCompiler last = x;
        for (int i = 0; i < CALLS; i++) {
            last = new CnfCompiler();
        }
        made = allocated() - before;
        Check.that("512 objects take " + made + " bytes, fewer than 7,000,000", made < 7_000_000);
        Check.due("a new object", last.models(), 1024);
        Check.finish();
    }

    private static long allocated() {
        return THREADS.getThreadAllocatedBytes(Thread.currentThread().getId());
    }

    private static void largeGraphAsTheReferenceHasIt() {
        CnfCompiler x = new CnfCompiler();
        Reference due = new Reference();
        for (int[] c : LARGE) {
            Check.due("addClause", x.addClause(c[0], c[1], c[2], c[3]), due.addClause(c[0], c[1], c[2], c[3]));
        }
        Check.that("the graph is large", x.nodes() > 200);
        for (int round = 0; round < 2; round++) {
            Check.due("nodes()", x.nodes(), due.nodes());
            Check.due("decisionNodes()", x.decisionNodes(), due.decisionNodes());
            Check.due("andNodes()", x.andNodes(), due.andNodes());
            Check.due("digest()", x.digest(), due.digest());
            x.setWeight(1, 5);
            x.retractAll();
            due.setWeight(1, 5);
            due.retractAll();
        }
    }

    private static void dearestRun(CnfCompiler x) {
        for (int[] c : LARGE) {
            x.addClause(c[0], c[1], c[2], c[3]);
        }
        for (int i = LARGE.length; i + 3 <= CALLS; i += 3) {
            x.retractAll();
            x.digest();
            x.explanation(i % 10 + 1, 2);
        }
    }
}
