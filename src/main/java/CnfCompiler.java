import java.util.Arrays;

/**
 * Compiles propositional formulas in conjunctive normal form to decomposable
 * decision graphs, counts their models and explains literals.
 *
 * A literal is held as its code: 2 * v for v and 2 * v + 1 for -v. A set of
 * literals (a clause, the assumptions) is an int whose bit c stands for code c.
 */
public final class CnfCompiler {
    public static final int OUT_OF_RANGE = -2;
    public static final int CONFLICT = -3;
    public static final int FULL = -4;
    public static final int NOTHING_SAVED = -5;
    public static final int NONE = -1;

    private static final int VARIABLES = 10;
    private static final int FIRST_CODE = 2;
    private static final int LAST_CODE = 2 * VARIABLES + 1;
    private static final int CODES = LAST_CODE + 1;
    /** The codes of the positive literals, as a set. */
    private static final int POSITIVE_CODES = 0x155554;
    private static final int MAX_CLAUSES = 16;
    private static final int MAX_CLAUSE_SIZE = 4;
    private static final int MAX_WEIGHT = 9;
    private static final int MAX_SAVED = 5;
    private static final int MAX_TEXT = 150;
    private static final int MAX_BYTE = 127;
    private static final int MAX_EXPLANATION = 3;
    private static final int ERROR_CODES = 4;
    private static final int ASSIGNMENTS = 1 << VARIABLES;
    /** A set of assignments takes this many longs, a bit for each assignment. */
    private static final int WORDS = ASSIGNMENTS / 64;
    /** explanation() may answer the literal -2, so its error has a value of its own. */
    private static final int EXPLANATION_OUT_OF_RANGE = -102;
    private static final int SYNTAX_ERROR_BASE = -10;
    private static final long DIGEST_START = 2671L;
    private static final int FLOAT_FRACTION_BITS = 23;
    private static final int FLOAT_EXPONENT_BIAS = 127;

    private final State state;
    private final History history;
    private final FormulaText text;
    private final ClauseReader reader;
    private final Graph graph;
    private final ModelSet modelSet;
    private final WeightedSum weightedSum;
    private final Explainer explainer;
    private final int[] errorCounts;
    private boolean graphIsFresh;
    private boolean modelSetIsFresh;

    public CnfCompiler() {
        state = new State();
        history = new History();
        text = new FormulaText();
        reader = new ClauseReader();
        graph = new Graph();
        modelSet = new ModelSet();
        weightedSum = new WeightedSum();
        explainer = new Explainer();
        errorCounts = new int[ERROR_CODES];
        graphIsFresh = false;
        modelSetIsFresh = false;
    }

    // ---- formula

    public int addClause(int a, int b, int c, int d) {
        if (!isLiteral(a) || !isLiteralOrZero(b) || !isLiteralOrZero(c) || !isLiteralOrZero(d)) {
            return fail(OUT_OF_RANGE);
        }
        if (sameVariable(a, b) || sameVariable(a, c) || sameVariable(a, d)
                || sameVariable(b, c) || sameVariable(b, d) || sameVariable(c, d)) {
            return fail(CONFLICT);
        }
        if (state.clauseCount >= MAX_CLAUSES) {
            return fail(FULL);
        }
        history.save(state);
        state.appendClause(bitOf(a) | bitOf(b) | bitOf(c) | bitOf(d));
        formulaHasChanged();
        return state.clauseCount - 1;
    }

    public int removeClause(int clause) {
        if (!state.hasClause(clause)) {
            return fail(OUT_OF_RANGE);
        }
        history.save(state);
        state.deleteClause(clause);
        formulaHasChanged();
        return state.clauseCount;
    }

    public int clauses() {
        return state.clauseCount;
    }

    public int clauseSize(int clause) {
        if (!state.hasClause(clause)) {
            return fail(OUT_OF_RANGE);
        }
        return Integer.bitCount(state.clauseAt(clause));
    }

    public int assume(int literal) {
        if (!isLiteral(literal)) {
            return fail(OUT_OF_RANGE);
        }
        if ((variablesOf(state.assumed) & variablesOf(bitOf(literal))) != 0) {
            return fail(CONFLICT);
        }
        history.save(state);
        state.assumed |= bitOf(literal);
        formulaHasChanged();
        return Integer.bitCount(state.assumed);
    }

    public int retractAll() {
        int retracted = Integer.bitCount(state.assumed);
        history.save(state);
        state.assumed = 0;
        formulaHasChanged();
        return retracted;
    }

    public int setWeight(int literal, int weight) {
        if (!isLiteral(literal) || weight < 0 || weight > MAX_WEIGHT) {
            return fail(OUT_OF_RANGE);
        }
        history.save(state);
        return state.replaceWeight(codeOf(literal), weight);
    }

    // ---- the graph

    public int nodes() {
        return freshGraph().nodeTotal();
    }

    public int decisionNodes() {
        return freshGraph().decisionTotal;
    }

    public int andNodes() {
        return freshGraph().andTotal;
    }

    public int depth() {
        return freshGraph().rootDepth;
    }

    public int rootVariable() {
        return freshGraph().variableAtRoot();
    }

    public int components() {
        return freshGraph().partsAtRoot();
    }

    // ---- counting

    public int models() {
        return freshModelSet().size();
    }

    public int modelsWith(int literal) {
        if (!isLiteral(literal)) {
            return fail(OUT_OF_RANGE);
        }
        return freshModelSet().sizeWith(codeOf(literal));
    }

    public long weightedCount() {
        return weightedSum.over(freshModelSet(), state);
    }

    public int shareBits() {
        return bitsOfShare(models());
    }

    public int implied(int sign) {
        if (sign != 1 && sign != -1) {
            return fail(OUT_OF_RANGE);
        }
        ModelSet current = freshModelSet();
        int answer = 0;
        for (int variable = 1; variable <= VARIABLES; variable++) {
            if (current.sizeWith(codeOf(-sign * variable)) == 0) {
                answer |= 1 << (variable - 1);
            }
        }
        return answer;
    }

    public int leastModel() {
        return freshModelSet().least();
    }

    public int explanation(int literal, int index) {
        if (!isLiteral(literal) || index < -1 || index >= MAX_EXPLANATION) {
            fail(OUT_OF_RANGE);
            return EXPLANATION_OUT_OF_RANGE;
        }
        if (explainer.goal != codeOf(literal)) {
            explainer.explain(codeOf(literal), freshModelSet(), state.assumed);
        }
        return index == -1 ? explainer.foundSize : explainer.literalAt(index);
    }

    // ---- text

    public int append(int value) {
        if (value < 0 || value > MAX_BYTE) {
            return fail(OUT_OF_RANGE);
        }
        if (text.length >= MAX_TEXT) {
            return fail(FULL);
        }
        text.addByte(value);
        return text.length;
    }

    public int clearText() {
        int length = text.length;
        text.length = 0;
        return length;
    }

    public int parse() {
        int errorPosition = reader.read(text, MAX_CLAUSES - state.clauseCount);
        if (errorPosition != NONE) {
            return SYNTAX_ERROR_BASE - errorPosition;
        }
        history.save(state);
        for (int i = 0; i < reader.readCount; i++) {
            state.appendClause(reader.clauseAt(i));
        }
        formulaHasChanged();
        return reader.readCount;
    }

    // ---- state

    public int undo() {
        if (history.savedCount == 0) {
            return fail(NOTHING_SAVED);
        }
        history.restoreInto(state);
        formulaHasChanged();
        return history.savedCount;
    }

    public int errorCount(int code) {
        if (!isErrorCode(code)) {
            return fail(OUT_OF_RANGE);
        }
        return errorCounts[OUT_OF_RANGE - code];
    }

    public long digest() {
        long h = DIGEST_START;
        for (int i = 0; i < ERROR_CODES; i++) {
            h = 31 * h + errorCounts[i];
        }
        h = 31 * h + text.length;
        h = 31 * h + state.clauseCount;
        for (int i = 0; i < state.clauseCount; i++) {
            h = 31 * h + Integer.bitCount(state.clauseAt(i));
        }
        h = 31 * h + Integer.bitCount(state.assumed);
        for (int code = FIRST_CODE; code <= LAST_CODE; code++) {
            h = 31 * h + state.weightOf(code);
        }
        h = digestOfGraph(h, freshGraph());
        ModelSet current = freshModelSet();
        h = 31 * h + current.size();
        h = 31 * h + weightedSum.over(current, state);
        h = 31 * h + current.least();
        return 31 * h + history.savedCount;
    }

    // ---- helpers

    private int fail(int code) {
        if (isErrorCode(code)) {
            errorCounts[OUT_OF_RANGE - code]++;
        }
        return code;
    }

    private static long digestOfGraph(long start, Graph current) {
        long h = 31 * start + current.nodeTotal();
        h = 31 * h + current.decisionTotal;
        h = 31 * h + current.andTotal;
        h = 31 * h + current.rootDepth;
        h = 31 * h + current.variableAtRoot();
        return 31 * h + current.partsAtRoot();
    }

    private void formulaHasChanged() {
        graphIsFresh = false;
        modelSetIsFresh = false;
        explainer.forget();
    }

    private Graph freshGraph() {
        if (!graphIsFresh) {
            graph.compile(state);
            graphIsFresh = true;
        }
        return graph;
    }

    private ModelSet freshModelSet() {
        if (!modelSetIsFresh) {
            modelSet.fill(state);
            modelSetIsFresh = true;
        }
        return modelSet;
    }

    private static boolean isErrorCode(int code) {
        return code <= OUT_OF_RANGE && code > OUT_OF_RANGE - ERROR_CODES;
    }

    private static boolean isLiteralOrZero(int number) {
        return number >= -VARIABLES && number <= VARIABLES;
    }

    private static boolean isLiteral(int number) {
        return number != 0 && isLiteralOrZero(number);
    }

    private static boolean sameVariable(int literal, int other) {
        return literal != 0 && (literal == other || literal == -other);
    }

    private static int codeOf(int literal) {
        return literal > 0 ? 2 * literal : -2 * literal + 1;
    }

    private static int literalOf(int code) {
        return (code & 1) == 0 ? code >> 1 : -(code >> 1);
    }

    /** The set of one literal; the empty set for 0. */
    private static int bitOf(int literal) {
        return literal == 0 ? 0 : 1 << codeOf(literal);
    }

    private static boolean contains(int literals, int code) {
        return (literals >> code & 1) != 0;
    }

    /** The variables of a set of literals, each as its positive literal. */
    private static int variablesOf(int literals) {
        return (literals | literals >> 1) & POSITIVE_CODES;
    }

    private static int oppositesOf(int literals) {
        return (literals & POSITIVE_CODES) << 1 | literals >> 1 & POSITIVE_CODES;
    }

    /**
     * The bits of count / 1024.0f. The quotient is exact, so they can be put
     * together from the highest bit of the count and the bits below it.
     */
    private static int bitsOfShare(int count) {
        if (count <= 0) {
            return 0;
        }
        int highest = 31 - Integer.numberOfLeadingZeros(count);
        int exponent = highest - VARIABLES + FLOAT_EXPONENT_BIAS;
        int fraction = (count - (1 << highest)) << (FLOAT_FRACTION_BITS - highest);
        return exponent << FLOAT_FRACTION_BITS | fraction;
    }

    /** What undo brings back: the formula, the assumptions and the weights. */
    private static final class State {
        private final int[] clauseSets;
        private int clauseCount;
        private int assumed;
        private final int[] weightByCode;

        private State() {
            clauseSets = new int[MAX_CLAUSES];
            clauseCount = 0;
            assumed = 0;
            weightByCode = new int[CODES];
            Arrays.fill(weightByCode, 1);
        }

        private boolean hasClause(int clause) {
            return clause >= 0 && clause < clauseCount;
        }

        private int clauseAt(int clause) {
            return hasClause(clause) ? clauseSets[clause] : 0;
        }

        private void appendClause(int literals) {
            if (clauseCount < MAX_CLAUSES) {
                clauseSets[clauseCount] = literals;
                clauseCount++;
            }
        }

        private void deleteClause(int clause) {
            if (!hasClause(clause)) {
                return;
            }
            for (int i = clause; i + 1 < clauseCount; i++) {
                clauseSets[i] = clauseSets[i + 1];
            }
            clauseCount--;
        }

        private int weightOf(int code) {
            return code >= 0 && code < CODES ? weightByCode[code] : 0;
        }

        private int replaceWeight(int code, int weight) {
            int previous = weightOf(code);
            if (code >= 0 && code < CODES) {
                weightByCode[code] = weight;
            }
            return previous;
        }

        private void copyFrom(State other) {
            System.arraycopy(other.clauseSets, 0, clauseSets, 0, MAX_CLAUSES);
            clauseCount = other.clauseCount;
            assumed = other.assumed;
            System.arraycopy(other.weightByCode, 0, weightByCode, 0, CODES);
        }
    }

    /** The saved states, the oldest first, in objects that are used again. */
    private static final class History {
        private final State[] saved;
        private int savedCount;

        private History() {
            saved = new State[MAX_SAVED];
            for (int i = 0; i < MAX_SAVED; i++) {
                saved[i] = new State();
            }
            savedCount = 0;
        }

        private void save(State current) {
            if (savedCount >= MAX_SAVED) {
                dropOldest();
            }
            State free = saved[savedCount];
            if (free != null) {
                free.copyFrom(current);
                savedCount++;
            }
        }

        private void dropOldest() {
            State oldest = saved[0];
            for (int i = 0; i + 1 < MAX_SAVED; i++) {
                saved[i] = saved[i + 1];
            }
            saved[MAX_SAVED - 1] = oldest;
            savedCount = MAX_SAVED - 1;
        }

        private void restoreInto(State current) {
            if (savedCount <= 0) {
                return;
            }
            savedCount--;
            State newest = saved[savedCount];
            if (newest != null) {
                current.copyFrom(newest);
            }
        }
    }

    /** The bytes of the formula text. */
    private static final class FormulaText {
        private final int[] bytes;
        private int length;

        private FormulaText() {
            bytes = new int[MAX_TEXT];
            length = 0;
        }

        private void addByte(int value) {
            if (length < MAX_TEXT) {
                bytes[length] = value;
                length++;
            }
        }

        /** The byte at a position, or NONE before and behind the text. */
        private int byteAt(int position) {
            return position >= 0 && position < length ? bytes[position] : NONE;
        }

        private boolean hasDigitAt(int position) {
            int value = byteAt(position);
            return value >= '0' && value <= '9';
        }
    }

    /** Reads the clauses of a formula text, up to the first syntax error. */
    private static final class ClauseReader {
        private static final int MAX_DIGITS = 2;

        private final int[] readClauses;
        private int readCount;
        private int position;
        private int openClause;
        private int errorPosition;

        private ClauseReader() {
            readClauses = new int[MAX_CLAUSES];
            readCount = 0;
            position = 0;
            openClause = 0;
            errorPosition = NONE;
        }

        private int clauseAt(int index) {
            return index >= 0 && index < readCount && index < MAX_CLAUSES ? readClauses[index] : 0;
        }

        /** Reads at most room clauses; returns the syntax error position, or NONE. */
        private int read(FormulaText text, int room) {
            readCount = 0;
            position = 0;
            openClause = 0;
            errorPosition = NONE;
            // each step moves the position on or finds the error
            for (int step = 0; step < MAX_TEXT && position < text.length && errorPosition == NONE; step++) {
                readToken(text, room);
            }
            if (errorPosition == NONE && openClause != 0) {
                errorPosition = text.length;
            }
            return errorPosition;
        }

        private void readToken(FormulaText text, int room) {
            int value = text.byteAt(position);
            if (value == ' ') {
                position++;
            } else if (value == ';') {
                closeClause();
            } else if (value == '-' || text.hasDigitAt(position)) {
                readLiteral(text, room);
            } else {
                errorPosition = position;
            }
        }

        private void closeClause() {
            if (openClause == 0 || readCount >= MAX_CLAUSES) {
                errorPosition = position;
                return;
            }
            readClauses[readCount] = openClause;
            readCount++;
            openClause = 0;
            position++;
        }

        private void readLiteral(FormulaText text, int room) {
            boolean isFifth = Integer.bitCount(openClause) >= MAX_CLAUSE_SIZE;
            boolean isOfClauseTooMany = openClause == 0 && readCount >= room;
            if (isFifth || isOfClauseTooMany) {
                errorPosition = position;
                return;
            }
            boolean isNegative = text.byteAt(position) == '-';
            int firstDigit = isNegative ? position + 1 : position;
            int digits = countDigits(text, firstDigit);
            if (digits == 0 || digits > MAX_DIGITS) {
                errorPosition = digits == 0 ? firstDigit : firstDigit + MAX_DIGITS;
                return;
            }
            int number = numberAt(text, firstDigit, digits);
            if (number < 1 || number > VARIABLES) {
                errorPosition = firstDigit;
                return;
            }
            int literal = bitOf(isNegative ? -number : number);
            if ((variablesOf(openClause) & variablesOf(literal)) != 0) {
                errorPosition = position;
                return;
            }
            openClause |= literal;
            position = firstDigit + digits;
        }

        /** Counts up to one digit too many, which is where the error of a long number stands. */
        private static int countDigits(FormulaText text, int firstDigit) {
            int digits = 0;
            while (digits <= MAX_DIGITS && text.hasDigitAt(firstDigit + digits)) {
                digits++;
            }
            return digits;
        }

        private static int numberAt(FormulaText text, int firstDigit, int digits) {
            int number = 0;
            for (int i = 0; i < digits; i++) {
                number = 10 * number + text.byteAt(firstDigit + i) - '0';
            }
            return number;
        }
    }

    /**
     * The decision graph of a state. A residual formula is an ascending row of
     * different clauses, so that equal residual formulas are equal rows and the
     * empty clause, if there is one, comes first.
     */
    private static final class Graph {
        private static final int ROW = MAX_CLAUSES;
        private static final int EMPTY_CLAUSE = 0;
        /** Each step down takes at least one variable out of the residual formula. */
        private static final int LEVELS = VARIABLES + 1;
        /** Without sharing, n variables give at most 2^n - 1 decision and AND nodes. */
        private static final int MAX_NODES = ASSIGNMENTS;
        private static final int FIRST_ROOM = 64;
        private static final int BUCKETS = 64;

        private final int[] rows;
        private final int[] bucketHeads;
        private int[] nodeRows;
        private int[] nodeSizes;
        private int[] nodeDepths;
        private int[] nodeNexts;
        private int nodeCount;
        private int rootSize;
        private int rootDepth;
        private int decisionTotal;
        private int andTotal;
        private boolean hasTrueNode;
        private boolean hasFalseNode;

        private Graph() {
            rows = new int[LEVELS * ROW];
            bucketHeads = new int[BUCKETS];
            nodeRows = new int[FIRST_ROOM * ROW];
            nodeSizes = new int[FIRST_ROOM];
            nodeDepths = new int[FIRST_ROOM];
            nodeNexts = new int[FIRST_ROOM];
        }

        private void compile(State state) {
            Arrays.fill(bucketHeads, NONE);
            nodeCount = 0;
            decisionTotal = 0;
            andTotal = 0;
            hasTrueNode = false;
            hasFalseNode = false;
            rootSize = 0;
            for (int i = 0; i < state.clauseCount; i++) {
                rootSize = addResidual(0, rootSize, state.clauseAt(i), state.assumed);
            }
            rootDepth = explore(0, rootSize);
        }

        private int nodeTotal() {
            return decisionTotal + andTotal + (hasTrueNode ? 1 : 0) + (hasFalseNode ? 1 : 0);
        }

        /** What rootVariable() answers. */
        private int variableAtRoot() {
            if (rootSize == 0) {
                return -1;
            }
            if (rows[0] == EMPTY_CLAUSE) {
                return -2;
            }
            return partsAtRoot() == 1 ? mostFrequentVariable(0, rootSize) : 0;
        }

        /** What components() answers. */
        private int partsAtRoot() {
            if (rootSize == 0 || rows[0] == EMPTY_CLAUSE) {
                return 0;
            }
            int parts = 0;
            int done = 0;
            for (int i = 0; i < rootSize; i++) {
                if ((variablesOf(rows[i]) & done) == 0) {
                    parts++;
                    done |= variablesConnectedTo(rows[i], 0, rootSize);
                }
            }
            return parts;
        }

        /**
         * Makes the nodes of the residual formula in the row of a level; returns
         * its depth. Rows further down are overwritten, this one stays.
         */
        private int explore(int level, int size) {
            if (level < 0 || level >= LEVELS || size > ROW) {
                return 0;
            }
            if (size <= 0) {
                hasTrueNode = true;
                return 0;
            }
            int base = level * ROW;
            if (rows[base] == EMPTY_CLAUSE) {
                hasFalseNode = true;
                return 0;
            }
            int bucket = bucketOf(base, size);
            int known = findNode(bucket, base, size);
            if (known != NONE) {
                return nodeDepths[known];
            }
            int connected = variablesConnectedTo(rows[base], base, size);
            boolean isConnected = connected == variablesIn(base, size);
            int below = isConnected ? exploreDecision(level, size) : exploreParts(level, size);
            addNode(bucket, base, size, below + 1);
            return below + 1;
        }

        private int exploreDecision(int level, int size) {
            decisionTotal++;
            int positive = bitOf(mostFrequentVariable(level * ROW, size));
            int low = explore(level + 1, setLiteral(level, size, oppositesOf(positive)));
            int high = explore(level + 1, setLiteral(level, size, positive));
            return Math.max(low, high);
        }

        private int exploreParts(int level, int size) {
            andTotal++;
            int base = level * ROW;
            int deepest = 0;
            int done = 0;
            for (int i = base; i < base + size; i++) {
                if ((variablesOf(rows[i]) & done) == 0) {
                    int part = variablesConnectedTo(rows[i], base, size);
                    done |= part;
                    deepest = Math.max(deepest, explore(level + 1, takePart(level, size, part)));
                }
            }
            return deepest;
        }

        /** Puts the row with a literal set to true into the next level; returns its size. */
        private int setLiteral(int level, int size, int trueLiteral) {
            int base = level * ROW;
            int nextSize = 0;
            for (int i = base; i < base + size; i++) {
                nextSize = addResidual(level + 1, nextSize, rows[i], trueLiteral);
            }
            return nextSize;
        }

        /** Puts the clauses with variables of a part into the next level; returns their number. */
        private int takePart(int level, int size, int part) {
            int base = level * ROW;
            int nextSize = 0;
            for (int i = base; i < base + size; i++) {
                if ((variablesOf(rows[i]) & part) != 0) {
                    nextSize = insert(level + 1, nextSize, rows[i]);
                }
            }
            return nextSize;
        }

        /** Inserts what setting some literals to true leaves of a clause, if it is not satisfied. */
        private int addResidual(int level, int size, int clause, int trueLiterals) {
            if ((clause & trueLiterals) != 0) {
                return size;
            }
            return insert(level, size, clause & ~oppositesOf(trueLiterals));
        }

        /** Inserts a clause in its place, unless the row has it already; returns the row's size. */
        private int insert(int level, int size, int clause) {
            if (level < 0 || level >= LEVELS || size < 0 || size >= ROW) {
                return size;
            }
            int base = level * ROW;
            int place = base + size;
            while (place > base && rows[place - 1] > clause) {
                place--;
            }
            if (place > base && rows[place - 1] == clause) {
                return size;
            }
            for (int i = base + size; i > place; i--) {
                rows[i] = rows[i - 1];
            }
            rows[place] = clause;
            return size + 1;
        }

        private int variablesIn(int base, int size) {
            int literals = 0;
            for (int i = base; i < base + size; i++) {
                literals |= rows[i];
            }
            return variablesOf(literals);
        }

        /** The variables of all clauses of a row that are connected to one of them. */
        private int variablesConnectedTo(int clause, int base, int size) {
            int connected = variablesOf(clause);
            // a round without a new variable is the last; each other one adds a variable
            for (int round = 0; round < VARIABLES; round++) {
                int before = connected;
                for (int i = base; i < base + size; i++) {
                    int variables = variablesOf(rows[i]);
                    if ((variables & connected) != 0) {
                        connected |= variables;
                    }
                }
                if (connected == before) {
                    break;
                }
            }
            return connected;
        }

        private int mostFrequentVariable(int base, int size) {
            int best = 1;
            int bestCount = 0;
            for (int variable = 1; variable <= VARIABLES; variable++) {
                int bothLiterals = bitOf(variable) | bitOf(-variable);
                int count = 0;
                for (int i = base; i < base + size; i++) {
                    if ((rows[i] & bothLiterals) != 0) {
                        count++;
                    }
                }
                if (count > bestCount) {
                    best = variable;
                    bestCount = count;
                }
            }
            return best;
        }

        private int bucketOf(int base, int size) {
            int hash = size;
            for (int i = base; i < base + size; i++) {
                hash = 31 * hash + rows[i];
            }
            return (hash ^ hash >>> 7 ^ hash >>> 15) & (BUCKETS - 1);
        }

        /** The node whose residual formula is the row at a base, or NONE. */
        private int findNode(int bucket, int base, int size) {
            int node = bucketHeads[bucket];
            for (int step = 0; step < nodeCount && node >= 0 && node < nodeCount; step++) {
                if (hasRow(node, base, size)) {
                    return node;
                }
                node = nodeNexts[node];
            }
            return NONE;
        }

        private boolean hasRow(int node, int base, int size) {
            if (nodeSizes[node] != size) {
                return false;
            }
            for (int i = 0; i < size; i++) {
                if (nodeRows[node * ROW + i] != rows[base + i]) {
                    return false;
                }
            }
            return true;
        }

        private void addNode(int bucket, int base, int size, int depth) {
            if (nodeCount >= nodeSizes.length) {
                makeRoom();
            }
            if (nodeCount >= nodeSizes.length) {
                return;
            }
            System.arraycopy(rows, base, nodeRows, nodeCount * ROW, size);
            nodeSizes[nodeCount] = size;
            nodeDepths[nodeCount] = depth;
            nodeNexts[nodeCount] = bucketHeads[bucket];
            bucketHeads[bucket] = nodeCount;
            nodeCount++;
        }

        /** Doubles the room for nodes: most formulas need little of what the largest ones do. */
        private void makeRoom() {
            int room = 2 * nodeSizes.length;
            if (room > MAX_NODES) {
                return;
            }
            nodeRows = Arrays.copyOf(nodeRows, room * ROW);
            nodeSizes = Arrays.copyOf(nodeSizes, room);
            nodeDepths = Arrays.copyOf(nodeDepths, room);
            nodeNexts = Arrays.copyOf(nodeNexts, room);
        }
    }

    /**
     * The models under the assumptions. Assignment a, in which bit v - 1 is 1
     * for each true variable v, is bit a % 64 of word a / 64.
     */
    private static final class ModelSet {
        /** Variables up to this one vary inside a word, the others from word to word. */
        private static final int INNER_VARIABLES = 6;
        private static final long[] INNER_WORDS = {
            0xAAAAAAAAAAAAAAAAL, 0xCCCCCCCCCCCCCCCCL, 0xF0F0F0F0F0F0F0F0L,
            0xFF00FF00FF00FF00L, 0xFFFF0000FFFF0000L, 0xFFFFFFFF00000000L
        };

        private final long[] words;
        private final long[] satisfying;

        private ModelSet() {
            words = new long[WORDS];
            satisfying = new long[WORDS];
        }

        /** A word of the set of all assignments in which the literal is true. */
        private static long literalWord(int code, int index) {
            int variable = code >> 1;
            long word;
            if (variable >= 1 && variable <= INNER_VARIABLES) {
                word = INNER_WORDS[variable - 1];
            } else {
                word = (index >> (variable - INNER_VARIABLES - 1) & 1) != 0 ? -1L : 0L;
            }
            return (code & 1) == 0 ? word : ~word;
        }

        private void fill(State state) {
            Arrays.fill(words, -1L);
            for (int i = 0; i < state.clauseCount; i++) {
                keepSatisfying(state.clauseAt(i));
            }
            for (int code = FIRST_CODE; code <= LAST_CODE; code++) {
                if (contains(state.assumed, code)) {
                    keepSatisfying(1 << code);
                }
            }
        }

        private void keepSatisfying(int clause) {
            Arrays.fill(satisfying, 0L);
            for (int code = FIRST_CODE; code <= LAST_CODE; code++) {
                if (contains(clause, code)) {
                    for (int i = 0; i < WORDS; i++) {
                        satisfying[i] |= literalWord(code, i);
                    }
                }
            }
            for (int i = 0; i < WORDS; i++) {
                words[i] &= satisfying[i];
            }
        }

        private long wordAt(int index) {
            return index >= 0 && index < WORDS ? words[index] : 0L;
        }

        private boolean has(int assignment) {
            return (wordAt(assignment >> 6) >>> (assignment & 63) & 1L) != 0;
        }

        private int size() {
            int count = 0;
            for (int i = 0; i < WORDS; i++) {
                count += Long.bitCount(words[i]);
            }
            return count;
        }

        private int sizeWith(int code) {
            int count = 0;
            for (int i = 0; i < WORDS; i++) {
                count += Long.bitCount(words[i] & literalWord(code, i));
            }
            return count;
        }

        private int least() {
            for (int i = 0; i < WORDS; i++) {
                if (words[i] != 0) {
                    return 64 * i + Long.numberOfTrailingZeros(words[i]);
                }
            }
            return NONE;
        }
    }

    /** Sums up the weights of models, from the products of each half of the variables. */
    private static final class WeightedSum {
        private static final int HALF = VARIABLES / 2;
        private static final int HALF_ASSIGNMENTS = 1 << HALF;

        private final long[] lowProducts;
        private final long[] highProducts;

        private WeightedSum() {
            lowProducts = new long[HALF_ASSIGNMENTS];
            highProducts = new long[HALF_ASSIGNMENTS];
        }

        private long over(ModelSet models, State state) {
            fillProducts(lowProducts, 1, state);
            fillProducts(highProducts, HALF + 1, state);
            long sum = 0;
            for (int high = 0; high < HALF_ASSIGNMENTS; high++) {
                long part = 0;
                for (int low = 0; low < HALF_ASSIGNMENTS; low++) {
                    if (models.has(high * HALF_ASSIGNMENTS + low)) {
                        part += lowProducts[low];
                    }
                }
                sum += part * highProducts[high];
            }
            return sum;
        }

        private static void fillProducts(long[] products, int firstVariable, State state) {
            for (int assignment = 0; assignment < HALF_ASSIGNMENTS && assignment < products.length; assignment++) {
                long product = 1;
                for (int i = 0; i < HALF; i++) {
                    int negation = 1 - (assignment >> i & 1);
                    product *= state.weightOf(2 * (firstVariable + i) + negation);
                }
                products[assignment] = product;
            }
        }
    }

    /** Finds the smallest explanation of a literal. */
    private static final class Explainer {
        private final long[] supporting;
        private final long[] opposing;
        private final int[] chosenCodes;
        private int usableCodes;
        /** The code of the literal whose explanation is held, or NONE: it is asked for piece by piece. */
        private int goal;
        /** The size of the explanation, or NONE. */
        private int foundSize;

        private Explainer() {
            supporting = new long[WORDS];
            opposing = new long[WORDS];
            chosenCodes = new int[MAX_EXPLANATION];
            usableCodes = 0;
            goal = NONE;
            foundSize = NONE;
        }

        private void forget() {
            goal = NONE;
        }

        private void explain(int code, ModelSet models, int assumed) {
            goal = code;
            for (int i = 0; i < WORDS; i++) {
                long goalWord = ModelSet.literalWord(goal, i);
                supporting[i] = models.wordAt(i) & goalWord;
                opposing[i] = models.wordAt(i) & ~goalWord;
            }
            int unusable = variablesOf(assumed | 1 << goal);
            usableCodes = ~(unusable | unusable << 1);
            foundSize = NONE;
            for (int size = 0; size <= MAX_EXPLANATION && foundSize == NONE; size++) {
                if (complete(0, FIRST_CODE, size)) {
                    foundSize = size;
                }
            }
        }

        /** Chooses the codes from a slot on, in ascending order; false if no choice explains. */
        private boolean complete(int slot, int firstCode, int size) {
            if (slot >= size || slot < 0 || slot >= MAX_EXPLANATION) {
                return explains(size);
            }
            for (int code = firstCode; code <= LAST_CODE; code++) {
                if (contains(usableCodes, code)) {
                    chosenCodes[slot] = code;
                    int codeOfNextVariable = (code | 1) + 1;
                    if (complete(slot + 1, codeOfNextVariable, size)) {
                        return true;
                    }
                }
            }
            return false;
        }

        private boolean explains(int size) {
            boolean isSupported = false;
            for (int i = 0; i < WORDS; i++) {
                long chosen = -1L;
                for (int slot = 0; slot < size && slot < MAX_EXPLANATION; slot++) {
                    chosen &= ModelSet.literalWord(chosenCodes[slot], i);
                }
                if ((opposing[i] & chosen) != 0) {
                    return false;
                }
                isSupported = isSupported || (supporting[i] & chosen) != 0;
            }
            return isSupported;
        }

        /** The literal at an index of the explanation, or 0 if there is none. */
        private int literalAt(int index) {
            boolean exists = index >= 0 && index < foundSize && index < MAX_EXPLANATION;
            return exists ? literalOf(chosenCodes[index]) : 0;
        }
    }
}
