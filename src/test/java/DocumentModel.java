import java.util.ArrayList;
import java.util.Arrays;
import java.util.HashSet;
import java.util.LinkedHashMap;
import java.util.List;
import java.util.Map;
import java.util.NoSuchElementException;
import java.util.Set;
import java.util.TreeSet;

/** The document word for word, with sets and maps in place of bits, to hold the program against. */
final class DocumentModel {
    private static final int NONE = -1;

    record Expression(int y, int op, int z) { }

    record Statement(int kind, int x, int a, Expression expression) {
        boolean gives(Expression e) {
            return kind != 3 && (x == e.y() || x == e.z());
        }

        boolean computes(Expression e) {
            return kind == 2 && expression.equals(e);
        }
    }

    record End(int kind, int x, int a, int b) { }

    record Edge(int from, int to) { }

    static final class Block {
        final List<Statement> statements = new ArrayList<>();
        End end = new End(0, 0, 0, 0);

        Set<Integer> successors() {
            Set<Integer> answer = new TreeSet<>();
            if (end.kind() >= 1) {
                answer.add(end.a());
            }
            if (end.kind() == 2) {
                answer.add(end.b());
            }
            return answer;
        }
    }

    private final List<Block> blocks = new ArrayList<>();
    private final List<Expression> expressions = new ArrayList<>();

    private boolean planned = false;
    private int plans = 0;
    private Set<Integer> reachable = new TreeSet<>();
    private List<Edge> edges = new ArrayList<>();
    private final List<Map<Integer, Set<Integer>>> sets = new ArrayList<>();
    private final Map<Edge, Set<Integer>> put = new LinkedHashMap<>();
    private final Set<Integer> moved = new TreeSet<>();

    private int[] variables = new int[6];
    private int[] temporaries = new int[24];
    private int[] computed = new int[24];
    private List<Integer> outs = new ArrayList<>();
    private int passed = 0;

    int block() {
        if (blocks.size() == 16) {
            throw new IllegalStateException();
        }
        planned = false;
        blocks.add(new Block());
        return blocks.size() - 1;
    }

    int statement(int kind, int x, int a, int b, int c) {
        boolean good = kind >= 0 && kind <= 3 && in(x, 0, 5);
        good &= kind != 0 || in(a, 0, 5);
        good &= kind != 1 || in(a, -32768, 32767);
        good &= kind != 2 || in(a, 0, 5) && in(b, 0, 4) && in(c, 0, 5);
        if (!good) {
            throw new IllegalArgumentException();
        }
        if (blocks.isEmpty() || latest().statements.size() == 5) {
            throw new IllegalStateException();
        }
        Expression e = kind == 2 ? new Expression(a, b, c) : null;
        if (e != null && !expressions.contains(e)) {
            if (expressions.size() == 24) {
                throw new IllegalStateException();
            }
            expressions.add(e);
        }
        planned = false;
        latest().statements.add(new Statement(kind, x, a, e));
        return latest().statements.size();
    }

    int end(int block, int kind, int x, int a, int b) {
        boolean good = in(block, 0, blocks.size() - 1) && in(kind, 0, 2);
        good &= kind == 0 || in(a, 0, 15);
        good &= kind != 2 || in(b, 0, 15) && in(x, 0, 5);
        if (!good) {
            throw new IllegalArgumentException();
        }
        planned = false;
        blocks.get(block).end = new End(kind, x, a, b);
        return blocks.get(block).successors().size();
    }

    int plan() {
        if (blocks.isEmpty()) {
            throw new IllegalStateException();
        }
        for (Block block : blocks) {
            for (int to : block.successors()) {
                if (to >= blocks.size()) {
                    throw new UnsupportedOperationException();
                }
            }
        }
        findEdges();
        findSets();
        planned = true;
        plans++;
        return moved.size();
    }

    long set(int b, int what) {
        mustBePlanned();
        if (!in(b, 0, blocks.size() - 1) || !in(what, 0, 5)) {
            throw new IndexOutOfBoundsException();
        }
        return bits(sets.get(what).getOrDefault(b, Set.of()));
    }

    long put(int a, int b) {
        mustBePlanned();
        if (!put.containsKey(new Edge(a, b))) {
            throw new NoSuchElementException();
        }
        return bits(put.get(new Edge(a, b)));
    }

    int expression(int y, int op, int z) {
        int number = expressions.indexOf(new Expression(y, op, z));
        if (number < 0) {
            throw new NoSuchElementException();
        }
        return number;
    }

    int run(boolean fresh, int a, int b, int c) {
        mustBePlanned();
        variables = new int[] {a, b, c, 0, 0, 0};
        temporaries = new int[24];
        computed = new int[24];
        outs = new ArrayList<>();
        passed = 0;
        int from = NONE;
        int at = 0;
        while (true) {
            if (fresh) {
                for (int e : put.get(new Edge(from, at))) {
                    int value = compute(e);
                    if (moved.contains(e)) {
                        temporaries[e] = value;
                    }
                }
            }
            goThrough(at, fresh);
            passed++;
            End end = blocks.get(at).end;
            if (end.kind() == 0 || passed == 200) {
                break;
            }
            from = at;
            at = end.kind() == 1 || variables[end.x()] != 0 ? end.a() : end.b();
        }
        return Arrays.stream(computed).sum();
    }

    int outs() {
        return outs.size();
    }

    int out(int i) {
        if (!in(i, 0, 99) || i >= outs.size()) {
            throw new IndexOutOfBoundsException();
        }
        return outs.get(i);
    }

    int variable(int x) {
        if (!in(x, 0, 5)) {
            throw new IndexOutOfBoundsException();
        }
        return variables[x];
    }

    int computed(int e) {
        return in(e, 0, 23) ? computed[e] : 0;
    }

    int count(int what) {
        if (!in(what, 0, 3)) {
            throw new IndexOutOfBoundsException();
        }
        return new int[] {blocks.size(), expressions.size(), plans, passed}[what];
    }

    private void goThrough(int b, boolean fresh) {
        Set<Integer> seen = new HashSet<>();
        for (Statement s : blocks.get(b).statements) {
            if (s.kind() == 0) {
                variables[s.x()] = variables[s.a()];
            } else if (s.kind() == 1) {
                variables[s.x()] = s.a();
            } else if (s.kind() == 3) {
                outs.add(variables[s.x()]);
            } else {
                int e = expressions.indexOf(s.expression());
                boolean first = seen.add(e);
                if (!fresh || !moved.contains(e)) {
                    variables[s.x()] = compute(e);
                } else if (first && sets.get(5).get(b).contains(e)) {
                    variables[s.x()] = temporaries[e];
                } else {
                    temporaries[e] = compute(e);
                    variables[s.x()] = temporaries[e];
                }
            }
        }
    }

    private int compute(int e) {
        computed[e]++;
        int y = variables[expressions.get(e).y()];
        int z = variables[expressions.get(e).z()];
        return switch (expressions.get(e).op()) {
            case 0 -> y + z;
            case 1 -> y - z;
            case 2 -> y * z;
            case 3 -> y & z;
            default -> y < z ? 1 : 0;
        };
    }

    private void findEdges() {
        reachable = new TreeSet<>(Set.of(0));
        List<Integer> todo = new ArrayList<>(List.of(0));
        edges = new ArrayList<>(List.of(new Edge(NONE, 0)));
        while (!todo.isEmpty()) {
            int b = todo.remove(todo.size() - 1);
            for (int to : blocks.get(b).successors()) {
                edges.add(new Edge(b, to));
                if (reachable.add(to)) {
                    todo.add(to);
                }
            }
        }
    }

    private boolean changes(int b, int e) {
        return blocks.get(b).statements.stream().anyMatch(s -> s.gives(expressions.get(e)));
    }

    private boolean asks(int b, int e) {
        for (Statement s : blocks.get(b).statements) {
            if (s.computes(expressions.get(e))) {
                return true;
            }
            if (s.gives(expressions.get(e))) {
                return false;
            }
        }
        return false;
    }

    private boolean leaves(int b, int e) {
        List<Statement> statements = blocks.get(b).statements;
        for (int i = statements.size() - 1; i >= 0; i--) {
            if (statements.get(i).gives(expressions.get(e))) {
                return false;
            }
            if (statements.get(i).computes(expressions.get(e))) {
                return true;
            }
        }
        return false;
    }

    private void findSets() {
        sets.clear();
        put.clear();
        moved.clear();
        for (int what = 0; what < 6; what++) {
            Map<Integer, Set<Integer>> rows = new LinkedHashMap<>();
            reachable.forEach(b -> rows.put(b, everything()));
            sets.add(rows);
        }
        sets.get(5).values().forEach(Set::clear);
        for (int e = 0; e < expressions.size(); e++) {
            flowThere(e);
            flowWanted(e);
        }
        Map<Edge, Set<Integer>> later = new LinkedHashMap<>();
        edges.forEach(edge -> later.put(edge, everything()));
        edges.forEach(edge -> put.put(edge, new TreeSet<>()));
        for (int e = 0; e < expressions.size(); e++) {
            flowLate(e, later);
            putAndTake(e, later);
        }
    }

    private Set<Integer> everything() {
        Set<Integer> all = new TreeSet<>();
        for (int e = 0; e < expressions.size(); e++) {
            all.add(e);
        }
        return all;
    }

    private void flowThere(int e) {
        boolean going = true;
        while (going) {
            going = false;
            for (int b : reachable) {
                boolean before = edges.stream().filter(edge -> edge.to() == b)
                        .allMatch(edge -> edge.from() != NONE && sets.get(1).get(edge.from()).contains(e));
                going |= drop(sets.get(0).get(b), e, before);
                going |= drop(sets.get(1).get(b), e, leaves(b, e) || before && !changes(b, e));
            }
        }
    }

    private void flowWanted(int e) {
        boolean going = true;
        while (going) {
            going = false;
            for (int b : reachable) {
                Set<Integer> next = blocks.get(b).successors();
                boolean behind = !next.isEmpty() && next.stream().allMatch(s -> sets.get(2).get(s).contains(e));
                going |= drop(sets.get(3).get(b), e, behind);
                going |= drop(sets.get(2).get(b), e, asks(b, e) || behind && !changes(b, e));
            }
        }
    }

    private boolean earliest(Edge edge, int e) {
        if (!sets.get(2).get(edge.to()).contains(e)) {
            return false;
        }
        int a = edge.from();
        return a == NONE || !sets.get(1).get(a).contains(e) && (changes(a, e) || !sets.get(3).get(a).contains(e));
    }

    private void flowLate(int e, Map<Edge, Set<Integer>> later) {
        boolean going = true;
        while (going) {
            going = false;
            for (Edge edge : edges) {
                int a = edge.from();
                boolean fits = earliest(edge, e) || a != NONE && sets.get(4).get(a).contains(e) && !asks(a, e);
                going |= drop(later.get(edge), e, fits);
            }
            for (int b : reachable) {
                boolean fits = edges.stream().filter(edge -> edge.to() == b)
                        .allMatch(edge -> later.get(edge).contains(e));
                going |= drop(sets.get(4).get(b), e, fits);
            }
        }
    }

    private void putAndTake(int e, Map<Edge, Set<Integer>> later) {
        for (Edge edge : edges) {
            if (later.get(edge).contains(e) && !sets.get(4).get(edge.to()).contains(e)) {
                put.get(edge).add(e);
            }
        }
        for (int b : reachable) {
            if (asks(b, e) && !sets.get(4).get(b).contains(e)) {
                sets.get(5).get(b).add(e);
                moved.add(e);
            }
        }
    }

    private static boolean drop(Set<Integer> set, int e, boolean stays) {
        return !stays && set.remove(e);
    }

    private static long bits(Set<Integer> set) {
        return set.stream().mapToLong(e -> 1L << e).sum();
    }

    private static boolean in(int n, int least, int most) {
        return n >= least && n <= most;
    }

    private Block latest() {
        return blocks.get(blocks.size() - 1);
    }

    private void mustBePlanned() {
        if (!planned) {
            throw new IllegalStateException();
        }
    }
}
