import java.util.Random;

/** Runs of calls with fixed seeds, each answer compared with the one of the reference. */
public final class RandomRunsTest {
    private static final int RUNS = 400;
    private static final int CALLS = 160;
    private static final String BYTES = "0123456789 -;1-2 3;4x";

    private final Random random;
    private final int seed;
    private final CnfCompiler x = new CnfCompiler();
    private final Reference due = new Reference();
    private int call = 0;

    private RandomRunsTest(int seed) {
        this.seed = seed;
        this.random = new Random(seed);
    }

    public static void main(String[] args) {
        for (int seed = 1; seed <= RUNS; seed++) {
            new RandomRunsTest(seed).run();
        }
        Check.finish();
    }

    private void run() {
        // runs differ in how soon the formula is full
        int clausesFirst = random.nextInt(17);
        for (int i = 0; i < clausesFirst; i++) {
            addClause(4, 10);
        }
        for (int i = 0; i < CALLS; i++) {
            step(random.nextInt(40));
        }
        compare("digest()", x.digest(), due.digest());
    }

    private void compare(String text, long got, long want) {
        call++;
        Check.due("seed " + seed + ", call " + call + ": " + text, got, want);
    }

    /** Mostly a literal, at times a number that is none. */
    private int literal() {
        int kind = random.nextInt(30);
        if (kind == 0) {
            return 0;
        }
        if (kind == 1) {
            return random.nextInt(25) - 12;
        }
        if (kind == 2) {
            return wild();
        }
        return (random.nextInt(10) + 1) * (random.nextBoolean() ? 1 : -1);
    }

    private int wild() {
        int[] numbers = {Integer.MIN_VALUE, Integer.MAX_VALUE, -11, 11, 127, 128, -1, 16, -102, 512, -1024};
        return numbers[random.nextInt(numbers.length)];
    }

    private int small(int from, int to) {
        return random.nextInt(20) == 0 ? wild() : from + random.nextInt(to - from + 1);
    }

    private void addClause(int mostLiterals, int mostVariable) {
        int[] n = new int[4];
        int count = 1 + random.nextInt(mostLiterals);
        for (int i = 0; i < count; i++) {
            n[i] = (random.nextInt(mostVariable) + 1) * (random.nextBoolean() ? 1 : -1);
        }
        addClause(n);
    }

    private void addClause(int[] n) {
        compare("addClause(" + n[0] + ", " + n[1] + ", " + n[2] + ", " + n[3] + ")",
                x.addClause(n[0], n[1], n[2], n[3]), due.addClause(n[0], n[1], n[2], n[3]));
    }

    private void step(int kind) {
        if (kind < 12) {
            change(kind);
        } else if (kind < 30) {
            ask(kind - 12);
        } else {
            write(kind - 30);
        }
    }

    private void change(int kind) {
        switch (kind) {
            case 0, 1, 2 -> addClause(4, 10);
            case 3 -> addClause(2, 4);
            case 4 -> addClause(new int[] {literal(), literal(), literal(), literal()});
            case 5 -> {
                int clause = small(-1, 16);
                compare("removeClause(" + clause + ")", x.removeClause(clause), due.removeClause(clause));
            }
            case 6, 7 -> {
                int n = literal();
                compare("assume(" + n + ")", x.assume(n), due.assume(n));
            }
            case 8 -> compare("retractAll()", x.retractAll(), due.retractAll());
            case 9 -> {
                int n = literal();
                int weight = small(-1, 10);
                compare("setWeight(" + n + ", " + weight + ")", x.setWeight(n, weight), due.setWeight(n, weight));
            }
            default -> compare("undo()", x.undo(), due.undo());
        }
    }

    private void ask(int kind) {
        switch (kind) {
            case 0 -> compare("nodes()", x.nodes(), due.nodes());
            case 1 -> compare("decisionNodes()", x.decisionNodes(), due.decisionNodes());
            case 2 -> compare("andNodes()", x.andNodes(), due.andNodes());
            case 3 -> compare("depth()", x.depth(), due.depth());
            case 4 -> compare("rootVariable()", x.rootVariable(), due.rootVariable());
            case 5 -> compare("components()", x.components(), due.components());
            case 6 -> compare("models()", x.models(), due.models());
            case 7 -> {
                int n = literal();
                compare("modelsWith(" + n + ")", x.modelsWith(n), due.modelsWith(n));
            }
            case 8 -> compare("weightedCount()", x.weightedCount(), due.weightedCount());
            case 9 -> compare("shareBits()", x.shareBits(), due.shareBits());
            case 10 -> {
                int sign = small(-2, 2);
                compare("implied(" + sign + ")", x.implied(sign), due.implied(sign));
            }
            case 11 -> compare("leastModel()", x.leastModel(), due.leastModel());
            case 12, 13 -> explain();
            case 14 -> compare("clauses()", x.clauses(), due.clauses());
            case 15 -> {
                int clause = small(-1, 16);
                compare("clauseSize(" + clause + ")", x.clauseSize(clause), due.clauseSize(clause));
            }
            case 16 -> {
                int code = small(-6, -1);
                compare("errorCount(" + code + ")", x.errorCount(code), due.errorCount(code));
            }
            default -> compare("digest()", x.digest(), due.digest());
        }
    }

    private void explain() {
        int n = literal();
        int first = small(-2, 3);
        compare("explanation(" + n + ", " + first + ")", x.explanation(n, first), due.explanation(n, first));
        if (random.nextBoolean()) {
            for (int i = -1; i <= 2; i++) {
                compare("explanation(" + n + ", " + i + ")", x.explanation(n, i), due.explanation(n, i));
            }
        }
    }

    private void write(int kind) {
        switch (kind) {
            case 0 -> compare("clearText()", x.clearText(), due.clearText());
            case 1, 2 -> compare("parse()", x.parse(), due.parse());
            case 3 -> {
                int value = random.nextBoolean() ? small(0, 127) : wild();
                compare("append(" + value + ")", x.append(value), due.append(value));
            }
            case 4, 5 -> {
                compare("clearText()", x.clearText(), due.clearText());
                writeClauses(1 + random.nextInt(5));
                compare("parse()", x.parse(), due.parse());
            }
            case 6 -> writeClauses(1 + random.nextInt(3));
            case 7 -> {
                compare("clearText()", x.clearText(), due.clearText());
                writeNoise(random.nextInt(12));
                compare("parse()", x.parse(), due.parse());
            }
            default -> writeNoise(1);
        }
    }

    private void writeNoise(int length) {
        for (int i = 0; i < length; i++) {
            put(BYTES.charAt(random.nextInt(BYTES.length())));
        }
    }

    private void writeClauses(int count) {
        for (int i = 0; i < count; i++) {
            int literals = 1 + random.nextInt(4);
            for (int k = 0; k < literals; k++) {
                int n = (random.nextInt(10) + 1) * (random.nextBoolean() ? 1 : -1);
                for (char c : (random.nextBoolean() || n > 0 ? " " + n : "" + n).toCharArray()) {
                    put(c);
                }
            }
            put(random.nextInt(40) == 0 ? 'x' : ';');
        }
    }

    private void put(int value) {
        compare("append(" + value + ")", x.append(value), due.append(value));
    }
}
