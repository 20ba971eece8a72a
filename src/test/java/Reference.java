import java.util.ArrayList;
import java.util.Arrays;
import java.util.HashMap;
import java.util.HashSet;
import java.util.List;
import java.util.Map;
import java.util.Set;
import java.util.TreeSet;
import java.util.regex.Matcher;
import java.util.regex.Pattern;

/**
 * The document read word by word, with sets and maps and no thought for speed:
 * what CnfCompiler must answer.
 */
final class Reference {
    private static final class Saved {
        List<Set<Integer>> formula;
        Set<Integer> assumed;
        Map<Integer, Integer> weights;
    }

    private List<Set<Integer>> formula = new ArrayList<>();
    private Set<Integer> assumed = new TreeSet<>();
    private Map<Integer, Integer> weights = new HashMap<>();
    private final StringBuilder text = new StringBuilder();
    private final List<Saved> saved = new ArrayList<>();
    private final Map<Integer, Integer> errors = new HashMap<>();

    Reference() {
        for (int v = 1; v <= 10; v++) {
            weights.put(v, 1);
            weights.put(-v, 1);
        }
    }

    private int error(int code) {
        errors.merge(code, 1, Integer::sum);
        return code;
    }

    private void save() {
        Saved s = new Saved();
        s.formula = new ArrayList<>(formula);
        s.assumed = new TreeSet<>(assumed);
        s.weights = new HashMap<>(weights);
        saved.add(s);
        if (saved.size() > 5) {
            saved.remove(0);
        }
    }

    private static boolean literal(int n) {
        return n != 0 && Math.abs((long) n) <= 10;
    }

    int addClause(int a, int b, int c, int d) {
        List<Integer> given = new ArrayList<>();
        for (int n : new int[] {a, b, c, d}) {
            if (n != 0 && !literal(n)) {
                return error(-2);
            }
            if (n != 0) {
                given.add(n);
            }
        }
        if (a == 0) {
            return error(-2);
        }
        Set<Integer> variables = new HashSet<>();
        for (int n : given) {
            if (!variables.add(Math.abs(n))) {
                return error(-3);
            }
        }
        if (formula.size() == 16) {
            return error(-4);
        }
        save();
        formula.add(new TreeSet<>(given));
        return formula.size() - 1;
    }

    int removeClause(int clause) {
        if (clause < 0 || clause >= formula.size()) {
            return error(-2);
        }
        save();
        formula.remove(clause);
        return formula.size();
    }

    int clauses() {
        return formula.size();
    }

    int clauseSize(int clause) {
        if (clause < 0 || clause >= formula.size()) {
            return error(-2);
        }
        return formula.get(clause).size();
    }

    int assume(int literal) {
        if (!literal(literal)) {
            return error(-2);
        }
        if (assumed.contains(literal) || assumed.contains(-literal)) {
            return error(-3);
        }
        save();
        assumed.add(literal);
        return assumed.size();
    }

    int retractAll() {
        save();
        int size = assumed.size();
        assumed.clear();
        return size;
    }

    int setWeight(int literal, int weight) {
        if (!literal(literal) || weight < 0 || weight > 9) {
            return error(-2);
        }
        save();
        return weights.put(literal, weight);
    }

    // ---- the graph: each residual formula that occurs, with its children

    private static final class Graph {
        final Map<Set<Set<Integer>>, Integer> depths = new HashMap<>();
        int decisions = 0;
        int ands = 0;
        boolean falseNode = false;
        boolean trueNode = false;
        int rootVariable;
        int components;
        int depth;

        int nodes() {
            return decisions + ands + (falseNode ? 1 : 0) + (trueNode ? 1 : 0);
        }
    }

    private static Set<Set<Integer>> set(Set<Set<Integer>> clauses, int literal) {
        Set<Set<Integer>> result = new HashSet<>();
        for (Set<Integer> clause : clauses) {
            if (!clause.contains(literal)) {
                Set<Integer> rest = new TreeSet<>(clause);
                rest.remove(-literal);
                result.add(rest);
            }
        }
        return result;
    }

    private static boolean touch(Set<Integer> clause, Set<Integer> other) {
        for (int n : clause) {
            if (other.contains(n) || other.contains(-n)) {
                return true;
            }
        }
        return false;
    }

    /** Joins groups of clauses until no two of them have a variable in common. */
    private static List<Set<Set<Integer>>> groups(Set<Set<Integer>> clauses) {
        List<Set<Set<Integer>>> groups = new ArrayList<>();
        for (Set<Integer> clause : clauses) {
            Set<Set<Integer>> joined = new HashSet<>();
            joined.add(clause);
            List<Set<Set<Integer>>> apart = new ArrayList<>();
            for (Set<Set<Integer>> group : groups) {
                boolean touches = false;
                for (Set<Integer> member : group) {
                    touches |= touch(clause, member);
                }
                if (touches) {
                    joined.addAll(group);
                } else {
                    apart.add(group);
                }
            }
            apart.add(joined);
            groups = apart;
        }
        return groups;
    }

    private static int decisionVariable(Set<Set<Integer>> clauses) {
        int best = 0;
        int most = 0;
        for (int v = 1; v <= 10; v++) {
            int count = 0;
            for (Set<Integer> clause : clauses) {
                count += clause.contains(v) || clause.contains(-v) ? 1 : 0;
            }
            if (count > most) {
                most = count;
                best = v;
            }
        }
        return best;
    }

    private static int visit(Graph graph, Set<Set<Integer>> clauses) {
        if (clauses.contains(new TreeSet<Integer>())) {
            graph.falseNode = true;
            return 0;
        }
        if (clauses.isEmpty()) {
            graph.trueNode = true;
            return 0;
        }
        if (graph.depths.containsKey(clauses)) {
            return graph.depths.get(clauses);
        }
        int deepest = 0;
        List<Set<Set<Integer>>> groups = groups(clauses);
        if (groups.size() > 1) {
            graph.ands++;
            for (Set<Set<Integer>> group : groups) {
                deepest = Math.max(deepest, visit(graph, group));
            }
        } else {
            graph.decisions++;
            int v = decisionVariable(clauses);
            deepest = Math.max(visit(graph, set(clauses, -v)), visit(graph, set(clauses, v)));
        }
        graph.depths.put(clauses, deepest + 1);
        return deepest + 1;
    }

    private Graph graph() {
        Set<Set<Integer>> root = new HashSet<>(formula);
        for (int n : assumed) {
            root = set(root, n);
        }
        Graph graph = new Graph();
        graph.depth = visit(graph, root);
        if (root.contains(new TreeSet<Integer>())) {
            graph.rootVariable = -2;
            graph.components = 0;
        } else if (root.isEmpty()) {
            graph.rootVariable = -1;
            graph.components = 0;
        } else {
            graph.components = groups(root).size();
            graph.rootVariable = graph.components > 1 ? 0 : decisionVariable(root);
        }
        return graph;
    }

    int nodes() {
        return graph().nodes();
    }

    int decisionNodes() {
        return graph().decisions;
    }

    int andNodes() {
        return graph().ands;
    }

    int depth() {
        return graph().depth;
    }

    int rootVariable() {
        return graph().rootVariable;
    }

    int components() {
        return graph().components;
    }

    // ---- counting: assignment by assignment

    private static boolean isTrue(int literal, int assignment) {
        boolean value = (assignment & 1 << (Math.abs(literal) - 1)) != 0;
        return value == literal > 0;
    }

    private List<Integer> modelList() {
        List<Integer> list = new ArrayList<>();
        for (int a = 0; a < 1024; a++) {
            boolean good = true;
            for (Set<Integer> clause : formula) {
                boolean satisfied = false;
                for (int n : clause) {
                    satisfied |= isTrue(n, a);
                }
                good &= satisfied;
            }
            for (int n : assumed) {
                good &= isTrue(n, a);
            }
            if (good) {
                list.add(a);
            }
        }
        return list;
    }

    int models() {
        return modelList().size();
    }

    int modelsWith(int literal) {
        if (!literal(literal)) {
            return error(-2);
        }
        int count = 0;
        for (int a : modelList()) {
            count += isTrue(literal, a) ? 1 : 0;
        }
        return count;
    }

    long weightedCount() {
        long sum = 0;
        for (int a : modelList()) {
            long product = 1;
            for (int v = 1; v <= 10; v++) {
                product *= weights.get(isTrue(v, a) ? v : -v);
            }
            sum += product;
        }
        return sum;
    }

    int shareBits() {
        return Float.floatToIntBits((float) models() / 1024.0f);
    }

    int implied(int sign) {
        if (sign != 1 && sign != -1) {
            return error(-2);
        }
        int bits = 0;
        for (int v = 1; v <= 10; v++) {
            boolean always = true;
            for (int a : modelList()) {
                always &= isTrue(sign * v, a);
            }
            bits |= always ? 1 << (v - 1) : 0;
        }
        return bits;
    }

    int leastModel() {
        List<Integer> list = modelList();
        return list.isEmpty() ? -1 : list.get(0);
    }

    private static int code(int literal) {
        return literal > 0 ? 2 * literal : 2 * -literal + 1;
    }

    /** All candidates of one size, as lists of literals with ascending codes, unsorted. */
    private List<List<Integer>> candidates(int size, int goal) {
        List<List<Integer>> all = new ArrayList<>();
        all.add(new ArrayList<>());
        for (int v = 10; v >= 1; v--) {
            if (v == Math.abs(goal) || assumed.contains(v) || assumed.contains(-v)) {
                continue;
            }
            List<List<Integer>> longer = new ArrayList<>();
            for (List<Integer> list : all) {
                for (int literal : new int[] {v, -v}) {
                    if (list.size() < size) {
                        List<Integer> more = new ArrayList<>();
                        more.add(literal);
                        more.addAll(list);
                        longer.add(more);
                    }
                }
            }
            all.addAll(longer);
        }
        all.removeIf(list -> list.size() != size);
        return all;
    }

    private static int compare(List<Integer> one, List<Integer> other) {
        for (int i = 0; i < one.size(); i++) {
            int order = Integer.compare(code(one.get(i)), code(other.get(i)));
            if (order != 0) {
                return order;
            }
        }
        return 0;
    }

    private List<Integer> smallestExplanation(int goal) {
        List<Integer> models = modelList();
        for (int size = 0; size <= 3; size++) {
            List<List<Integer>> candidates = candidates(size, goal);
            candidates.sort(Reference::compare);
            for (List<Integer> candidate : candidates) {
                int with = 0;
                int without = 0;
                for (int a : models) {
                    boolean holds = true;
                    for (int n : candidate) {
                        holds &= isTrue(n, a);
                    }
                    with += holds && isTrue(goal, a) ? 1 : 0;
                    without += holds && !isTrue(goal, a) ? 1 : 0;
                }
                if (with > 0 && without == 0) {
                    return candidate;
                }
            }
        }
        return null;
    }

    int explanation(int literal, int index) {
        if (!literal(literal) || index < -1 || index > 2) {
            error(-2);
            return -102;
        }
        List<Integer> found = smallestExplanation(literal);
        if (index == -1) {
            return found == null ? -1 : found.size();
        }
        return found == null || index >= found.size() ? 0 : found.get(index);
    }

    // ---- text

    int append(int value) {
        if (value < 0 || value > 127) {
            return error(-2);
        }
        if (text.length() == 150) {
            return error(-4);
        }
        text.append((char) value);
        return text.length();
    }

    int clearText() {
        int length = text.length();
        text.setLength(0);
        return length;
    }

    private static final Pattern LITERAL = Pattern.compile("(-?)([0-9]*)");

    /** Fills the list with the clauses of the text; returns the error position or -1. */
    private int read(List<Set<Integer>> clauses) {
        Set<Integer> clause = new TreeSet<>();
        int i = 0;
        while (i < text.length()) {
            char c = text.charAt(i);
            if (c == ' ') {
                i++;
                continue;
            }
            if (c == ';') {
                if (clause.isEmpty()) {
                    return i;
                }
                clauses.add(clause);
                clause = new TreeSet<>();
                i++;
                continue;
            }
            Matcher matcher = LITERAL.matcher(text);
            matcher.region(i, text.length());
            if (!matcher.lookingAt() || matcher.end() == i) {
                return i;
            }
            if (clause.size() == 4 || clause.isEmpty() && formula.size() + clauses.size() == 16) {
                return i;
            }
            String digits = matcher.group(2);
            if (digits.isEmpty()) {
                return matcher.end();
            }
            if (digits.length() > 2) {
                return matcher.start(2) + 2;
            }
            int number = Integer.parseInt(digits);
            if (number == 0 || number > 10) {
                return matcher.start(2);
            }
            if (clause.contains(number) || clause.contains(-number)) {
                return i;
            }
            clause.add(matcher.group(1).isEmpty() ? number : -number);
            i = matcher.end();
        }
        return clause.isEmpty() ? -1 : text.length();
    }

    int parse() {
        List<Set<Integer>> clauses = new ArrayList<>();
        int position = read(clauses);
        if (position >= 0) {
            return -10 - position;
        }
        save();
        formula.addAll(clauses);
        return clauses.size();
    }

    // ---- state

    int undo() {
        if (saved.isEmpty()) {
            return error(-5);
        }
        Saved s = saved.remove(saved.size() - 1);
        formula = s.formula;
        assumed = s.assumed;
        weights = s.weights;
        return saved.size();
    }

    int errorCount(int code) {
        if (code < -5 || code > -2) {
            return error(-2);
        }
        return errors.getOrDefault(code, 0);
    }

    long digest() {
        List<Long> values = new ArrayList<>();
        for (int code : new int[] {-2, -3, -4, -5}) {
            values.add((long) errors.getOrDefault(code, 0));
        }
        values.add((long) text.length());
        values.add((long) formula.size());
        for (Set<Integer> clause : formula) {
            values.add((long) clause.size());
        }
        values.add((long) assumed.size());
        for (int v = 1; v <= 10; v++) {
            values.add((long) weights.get(v));
            values.add((long) weights.get(-v));
        }
        Graph graph = graph();
        values.addAll(Arrays.asList((long) graph.nodes(), (long) graph.decisions, (long) graph.ands,
                (long) graph.depth, (long) graph.rootVariable, (long) graph.components));
        values.add((long) models());
        values.add(weightedCount());
        values.add((long) leastModel());
        values.add((long) saved.size());
        long h = 2671;
        for (long value : values) {
            h = 31 * h + value;
        }
        return h;
    }
}
