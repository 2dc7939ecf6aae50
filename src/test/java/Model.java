import java.util.ArrayList;
import java.util.HashMap;
import java.util.LinkedHashMap;
import java.util.List;
import java.util.Map;
import java.util.TreeMap;

/**
 * The document once more, as plainly as it can be said with objects and recursion, and without a
 * thought for what it costs: what NeededTrees is compared with.
 */
final class Model {
    static final int NONE = -1;

    static final class Term {
        final int c;
        final List<Term> parts = new ArrayList<>();
        final Object name;

        Term(int c, Object name) {
            this.c = c;
            this.name = name;
        }
    }

    static final class Node {
        int kind;
        int rule;
        List<Integer> position = new ArrayList<>();
        List<Node> children = new ArrayList<>();
        int label = NONE;
        int depth;
    }

    static final class Outcome {
        int rule;
        int asked;
        int free;
        List<Integer> numbers = new ArrayList<>();
    }

    static final class Wrong extends Exception {
        private static final long serialVersionUID = 1L;
        final int place;

        Wrong(int place) {
            this.place = place;
        }
    }

    int types = 0;
    final List<int[]> constructors = new ArrayList<>();
    int[] function = null;
    List<List<Term>> rules = new ArrayList<>();
    List<Integer> row = new ArrayList<>();
    List<Outcome> outcomes = new ArrayList<>();
    private int at;
    private boolean longer;

    int type() {
        return types == 12 ? NONE : types++;
    }

    int constructor(int type, int arity, int packed) {
        if (type < 0 || type >= types || arity < 0 || arity > 4 || constructors.size() == 60) {
            return NONE;
        }
        int[] c = new int[arity + 1];
        c[arity] = type;
        for (int i = 0; i < arity; i++) {
            c[i] = Math.floorMod(packed >> (4 * i), 16);
            if (c[i] >= types) {
                return NONE;
            }
        }
        constructors.add(c);
        outcomes = new ArrayList<>();
        return constructors.size() - 1;
    }

    boolean begin(int n, int packed) {
        if (n < 0 || n > 6) {
            return false;
        }
        int[] f = new int[n];
        for (int i = 0; i < n; i++) {
            f[i] = Math.floorMod(packed >> (4 * i), 16);
            if (f[i] >= types) {
                return false;
            }
        }
        function = f;
        rules = new ArrayList<>();
        outcomes = new ArrayList<>();
        return true;
    }

    int put(int v) {
        if (row.size() == 160) {
            return NONE;
        }
        row.add(v);
        return row.size();
    }

    private Term readOne(List<Integer> taken, int want, Map<Integer, Integer> names) throws Wrong {
        if (at >= taken.size()) {
            throw new Wrong(at);
        }
        int v = taken.get(at);
        if (v >= 0) {
            if (v >= constructors.size()) {
                throw new Wrong(at);
            }
            int[] c = constructors.get(v);
            if (c[c.length - 1] != want) {
                throw new Wrong(at);
            }
            at++;
            Term t = new Term(v, null);
            for (int i = 0; i < c.length - 1; i++) {
                t.parts.add(readOne(taken, c[i], names));
            }
            return t;
        }
        if (names == null ? v != -1 : v < -8) {
            throw new Wrong(at);
        }
        if (names != null && names.computeIfAbsent(v, x -> want) != want) {
            throw new Wrong(at);
        }
        at++;
        return new Term(NONE, v);
    }

    private List<Term> readAll(List<Integer> taken, boolean terms) throws Wrong {
        at = 0;
        Map<Integer, Integer> names = terms ? new HashMap<>() : null;
        List<Term> all = new ArrayList<>();
        for (int want : function) {
            all.add(readOne(taken, want, names));
        }
        if (at < taken.size()) {
            throw new Wrong(at);
        }
        return all;
    }

    int rule() {
        List<Integer> taken = row;
        row = new ArrayList<>();
        if (function == null || rules.size() == 24) {
            return NONE;
        }
        try {
            rules.add(readAll(taken, false));
        } catch (Wrong w) {
            return -2 - w.place;
        }
        outcomes = new ArrayList<>();
        return rules.size() - 1;
    }

    static Term under(List<Term> terms, List<Integer> position) {
        Term t = null;
        List<Term> among = terms;
        for (int place : position) {
            t = among.get(place);
            among = t.parts;
        }
        return t;
    }

    Node tree() {
        if (rules.isEmpty()) {
            return null;
        }
        List<Integer> all = new ArrayList<>();
        for (int r = 0; r < rules.size(); r++) {
            all.add(r);
        }
        List<List<Integer>> open = new ArrayList<>();
        for (int i = 0; i < function.length; i++) {
            open.add(List.of(i));
        }
        return tree(all, open, 0);
    }

    private boolean needs(int rule, List<Integer> position) {
        return under(rules.get(rule), position).c >= 0;
    }

    private Node tree(List<Integer> of, List<List<Integer>> open, int depth) {
        Node node = new Node();
        node.depth = depth;
        for (List<Integer> position : open) {
            if (of.stream().allMatch(r -> needs(r, position))) {
                return branch(node, of, open, position);
            }
        }
        node.kind = 2;
        for (List<Integer> position : open) {
            if (of.stream().anyMatch(r -> needs(r, position))) {
                List<Integer> run = new ArrayList<>();
                for (int r : of) {
                    if (!run.isEmpty() && needs(run.get(0), position) != needs(r, position)) {
                        node.children.add(tree(run, open, depth + 1));
                        run = new ArrayList<>();
                    }
                    run.add(r);
                }
                node.children.add(tree(run, open, depth + 1));
                return node;
            }
        }
        if (of.size() == 1) {
            node.kind = 0;
            node.rule = of.get(0);
            return node;
        }
        for (int r : of) {
            node.children.add(tree(List.of(r), open, depth + 1));
        }
        return node;
    }

    private Node branch(Node node, List<Integer> of, List<List<Integer>> open, List<Integer> position) {
        node.kind = 1;
        node.position = position;
        Map<Integer, List<Integer>> by = new TreeMap<>();
        for (int r : of) {
            by.computeIfAbsent(under(rules.get(r), position).c, x -> new ArrayList<>()).add(r);
        }
        for (Map.Entry<Integer, List<Integer>> e : by.entrySet()) {
            List<List<Integer>> next = new ArrayList<>();
            for (List<Integer> p : open) {
                if (p != position) {
                    next.add(p);
                    continue;
                }
                for (int i = 0; i < constructors.get(e.getKey()).length - 1; i++) {
                    List<Integer> q = new ArrayList<>(p);
                    q.add(i);
                    next.add(q);
                }
            }
            Node child = tree(e.getValue(), next, node.depth + 1);
            child.label = e.getKey();
            node.children.add(child);
        }
        return node;
    }

    int lead() {
        List<Integer> taken = row;
        row = new ArrayList<>();
        if (function == null) {
            return NONE;
        }
        outcomes = new ArrayList<>();
        List<Term> terms;
        try {
            terms = readAll(taken, true);
        } catch (Wrong w) {
            return -2 - w.place;
        }
        Node tree = tree();
        longer = false;
        if (tree != null) {
            lead(tree, terms, 0, 0);
        }
        if (longer) {
            outcomes = new ArrayList<>();
            return -1000;
        }
        return outcomes.size();
    }

    private static Term with(Term t, Object name, Term instead) {
        if (t.c < 0) {
            return t.name.equals(name) ? instead : t;
        }
        Term copy = new Term(t.c, null);
        for (Term part : t.parts) {
            copy.parts.add(with(part, name, instead));
        }
        return copy;
    }

    private void lead(Node node, List<Term> terms, int asked, int free) {
        if (node.kind == 0) {
            Outcome o = new Outcome();
            o.rule = node.rule;
            o.asked = asked;
            o.free = free;
            Map<Object, Integer> names = new LinkedHashMap<>();
            for (Term t : terms) {
                tell(t, o.numbers, names);
            }
            longer |= o.numbers.size() > 400;
            outcomes.add(o);
            return;
        }
        if (node.kind == 2) {
            for (Node child : node.children) {
                lead(child, terms, asked, free);
            }
            return;
        }
        Term t = under(terms, node.position);
        for (Node child : node.children) {
            if (t.c == child.label) {
                lead(child, terms, asked + 1, free);
            } else if (t.c < 0) {
                Term instead = new Term(child.label, null);
                for (int i = 0; i < constructors.get(child.label).length - 1; i++) {
                    instead.parts.add(new Term(NONE, new Object()));
                }
                List<Term> then = new ArrayList<>();
                for (Term old : terms) {
                    then.add(with(old, t.name, instead));
                }
                lead(child, then, asked + 1, free + 1);
            }
        }
    }

    private static void tell(Term t, List<Integer> numbers, Map<Object, Integer> names) {
        if (t.c < 0) {
            numbers.add(names.computeIfAbsent(t.name, x -> -1 - names.size()));
            return;
        }
        numbers.add(t.c);
        for (Term part : t.parts) {
            tell(part, numbers, names);
        }
    }

    int outcome(int i, int what) {
        if (i < 0 || i >= outcomes.size() || what < 0) {
            return -9;
        }
        Outcome o = outcomes.get(i);
        if (what < 4) {
            return new int[] {o.rule, o.asked, o.free, o.numbers.size()}[what];
        }
        return what - 4 < o.numbers.size() ? o.numbers.get(what - 4) : -9;
    }

    List<Node> nodes() {
        List<Node> all = new ArrayList<>();
        Node tree = tree();
        if (tree != null) {
            collect(tree, all);
        }
        return all;
    }

    private static void collect(Node node, List<Node> all) {
        all.add(node);
        for (Node child : node.children) {
            collect(child, all);
        }
    }

    int size() {
        return nodes().size();
    }

    int node(int k, int what) {
        return node(nodes(), k, what);
    }

    static int node(List<Node> all, int k, int what) {
        if (k < 0 || k >= all.size() || what < 0) {
            return -9;
        }
        Node n = all.get(k);
        if (what < 5) {
            int first = n.kind == 0 ? n.rule : n.position.size();
            return new int[] {n.kind, first, n.children.size(), n.label, n.depth}[what];
        }
        return what - 5 < n.position.size() ? n.position.get(what - 5) : -9;
    }

    boolean covers() {
        Node tree = tree();
        return tree != null && covers(tree);
    }

    private boolean covers(Node n) {
        if (n.kind == 0) {
            return true;
        }
        if (n.kind == 2) {
            return n.children.stream().anyMatch(this::covers);
        }
        int asked = constructors.get(n.children.get(0).label)[constructors.get(n.children.get(0).label).length - 1];
        for (int c = 0; c < constructors.size(); c++) {
            int label = c;
            boolean ofType = constructors.get(c)[constructors.get(c).length - 1] == asked;
            if (ofType && n.children.stream().noneMatch(child -> child.label == label)) {
                return false;
            }
        }
        return n.children.stream().allMatch(this::covers);
    }

    boolean clash(int i, int j) {
        if (i < 0 || j < 0 || i >= rules.size() || j >= rules.size()) {
            return false;
        }
        for (int a = 0; a < function.length; a++) {
            if (!meet(rules.get(i).get(a), rules.get(j).get(a))) {
                return false;
            }
        }
        return true;
    }

    private static boolean meet(Term s, Term t) {
        if (s.c < 0 || t.c < 0) {
            return true;
        }
        boolean all = s.c == t.c;
        for (int i = 0; all && i < s.parts.size(); i++) {
            all = meet(s.parts.get(i), t.parts.get(i));
        }
        return all;
    }

    int count(int what) {
        switch (what) {
            case 0:
                return types;
            case 1:
                return constructors.size();
            case 2:
                return rules.size();
            case 3:
                return function == null ? NONE : function.length;
            case 4:
                return row.size();
            case 5:
                return outcomes.size();
            case 6:
                return (int) nodes().stream().filter(n -> n.kind == 2).count();
            case 7:
                return (int) nodes().stream().filter(n -> n.kind == 1).count();
            case 8:
                return nodes().stream().mapToInt(n -> n.depth).max().orElse(0);
            default:
                return -9;
        }
    }
}
