/** Makes objects in a given state. */
final class Make {
    static final int LOWEST = Integer.MIN_VALUE;
    static final int HIGHEST = Integer.MAX_VALUE;

    private Make() {
    }

    static int[] c(int... literals) {
        return literals;
    }

    /** A new object with these clauses. */
    static CnfCompiler with(int[]... clauses) {
        CnfCompiler x = new CnfCompiler();
        for (int[] clause : clauses) {
            add(x, clause);
        }
        return x;
    }

    static int add(CnfCompiler x, int... clause) {
        int b = clause.length > 1 ? clause[1] : 0;
        int c = clause.length > 2 ? clause[2] : 0;
        int d = clause.length > 3 ? clause[3] : 0;
        return x.addClause(clause[0], b, c, d);
    }

    static CnfCompiler assuming(CnfCompiler x, int... literals) {
        for (int literal : literals) {
            x.assume(literal);
        }
        return x;
    }

    /** A new object with a number of equal clauses. */
    static CnfCompiler withEqualClauses(int count) {
        CnfCompiler x = new CnfCompiler();
        for (int i = 0; i < count; i++) {
            x.addClause(1, 2, 0, 0);
        }
        return x;
    }

    static void write(CnfCompiler x, String text) {
        x.clearText();
        for (int i = 0; i < text.length(); i++) {
            x.append(text.charAt(i));
        }
    }

    static int parse(CnfCompiler x, String text) {
        write(x, text);
        return x.parse();
    }

    static CnfCompiler withFullText() {
        CnfCompiler x = new CnfCompiler();
        write(x, "7 -8;" + " ".repeat(145));
        return x;
    }
}
