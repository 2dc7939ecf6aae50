import java.util.ArrayList;
import java.util.List;

/** Long made-up runs of calls: each answer must be the model's. */
public final class ModelTest {
    private static final int RUNS = 4000;
    private static final int CALLS = 512;

    private final Dice dice;
    private int run;
    private int calls;
    private int nameKinds = 3;
    private boolean thick;
    private NeededTrees x;
    private Model m;
    private int[] seen = new int[8];
    private static final int[] ALL_SEEN = new int[8];

    private ModelTest(int run) {
        this.run = run;
        this.dice = new Dice(run * 0x9E3779B97F4A7C15L + 12345);
        this.x = new NeededTrees();
        this.m = new Model();
    }

    private int below(int n) {
        return dice.below(n);
    }

    private int wild() {
        int[] some = {-1, -2, 0, 1, 5, 12, 13, 60, 160, -9, -1000, Integer.MIN_VALUE, Integer.MAX_VALUE};
        return some[below(some.length)];
    }

    private void due(String call, int want, int got) {
        calls++;
        Check.due("run " + run + " call " + calls + ": " + call, want, got);
    }

    private void due(String call, boolean want, boolean got) {
        calls++;
        Check.due("run " + run + " call " + calls + ": " + call, want, got);
    }

    private boolean hasCalls(int n) {
        return calls + n <= CALLS && !Check.anyWrong();
    }

    private int packed(int kinds) {
        int all = 0;
        for (int i = 0; i < 8; i++) {
            all |= below(kinds) << (4 * i);
        }
        return all;
    }

    private void constructor(int type, int arity, int types) {
        due("constructor(" + type + ", " + arity + ", " + types + ")", m.constructor(type, arity, types), x.constructor(type, arity, types));
    }

    private void begin(int n, int types) {
        due("begin(" + n + ", " + types + ")", m.begin(n, types), x.begin(n, types));
    }

    private void signature() {
        int types = below(12) == 0 ? 13 : 1 + below(3);
        for (int i = 0; i < types; i++) {
            due("type()", m.type(), x.type());
        }
        types = Math.min(types, 12);
        int many = below(15) == 0 ? 62 : types + below(6);
        for (int i = 0; i < many; i++) {
            int arity = i < types ? below(2) * below(3) : below(5);
            constructor(i < types ? i : below(types), arity, packed(below(20) == 0 ? 16 : types));
        }
        begin(below(7), packed(types));
    }

    private void anyRow(List<Integer> into, int want, int depth, int sort) {
        List<Integer> fit = new ArrayList<>();
        for (int c = 0; c < m.constructors.size(); c++) {
            int[] one = m.constructors.get(c);
            if (one[one.length - 1] == want) {
                fit.add(c);
            }
        }
        boolean ends = thick ? into.size() > 70 || into.isEmpty() : depth <= 0 || below(4) == 0;
        if (fit.isEmpty() || ends) {
            into.add(sort == 0 ? -1 : -1 - (want * 3 + below(nameKinds)) % 8);
            return;
        }
        int c = fit.get(below(fit.size()));
        for (int other : fit) {
            if (thick && m.constructors.get(other).length > m.constructors.get(c).length) {
                c = other;
            }
        }
        into.add(c);
        int[] one = m.constructors.get(c);
        for (int i = 0; i < one.length - 1; i++) {
            anyRow(into, one[i], depth - 1, sort);
        }
    }

    private void putRow(int sort) {
        List<Integer> all = new ArrayList<>();
        int depth = below(12) == 0 ? 8 : below(4);
        thick = sort == 1 && below(8) == 0;
        nameKinds = thick || below(3) == 0 ? 1 : 3;
        for (int want : m.function) {
            anyRow(all, want, depth, sort);
        }
        if (below(12) == 0 && !all.isEmpty()) {
            all.set(below(all.size()), wild());
        }
        if (below(25) == 0) {
            all.add(below(3) - 1);
        }
        if (below(25) == 0 && !all.isEmpty()) {
            all.remove(all.size() - 1);
        }
        if (!hasCalls(Math.min(all.size(), 60) + 30)) {
            return;
        }
        for (int i = 0; i < all.size() && hasCalls(4); i++) {
            due("put(" + all.get(i) + ")", m.put(all.get(i)), x.put(all.get(i)));
        }
    }

    private void rule() {
        int want = m.rule();
        seen[0] += want >= 0 ? 1 : 0;
        seen[1] += want < -1 ? 1 : 0;
        due("rule()", want, x.rule());
    }

    private void lead() {
        int want = m.lead();
        seen[2] += want > 1 ? 1 : 0;
        seen[3] += want == -1000 ? 1 : 0;
        due("lead()", want, x.lead());
        for (int i = 0; i < want; i++) {
            seen[4] += m.outcome(i, 2) > 1 ? 1 : 0;
            for (int what = 0; what < 4 + m.outcome(i, 3) && what < 40 && hasCalls(8); what++) {
                outcome(i, what);
            }
        }
    }

    private void outcome(int i, int what) {
        due("outcome(" + i + ", " + what + ")", m.outcome(i, what), x.outcome(i, what));
    }

    private void node(int k, int what) {
        due("node(" + k + ", " + what + ")", m.node(k, what), x.node(k, what));
    }

    private void ask() {
        switch (below(9)) {
            case 0:
                due("size()", m.size(), x.size());
                break;
            case 1:
            case 2:
                node(below(m.size() + 1), below(9));
                break;
            case 3:
                node(wild(), wild());
                break;
            case 4:
                due("covers()", m.covers(), x.covers());
                seen[5] += m.covers() ? 1 : 0;
                break;
            case 5:
                int i = below(m.rules.size() + 1);
                int j = below(m.rules.size() + 1) - below(2);
                due("clash(" + i + ", " + j + ")", m.clash(i, j), x.clash(i, j));
                break;
            case 6:
                int what = below(11) - 1;
                due("count(" + what + ")", m.count(what), x.count(what));
                break;
            case 7:
                outcome(below(m.outcomes.size() + 1), below(30) - 1);
                break;
            default:
                outcome(wild(), wild());
        }
    }

    private void change() {
        switch (below(4)) {
            case 0:
                due("type()", m.type(), x.type());
                break;
            case 1:
                constructor(below(m.types + 1) - below(2), below(6) - below(2), packed(16));
                break;
            case 2:
                constructor(below(m.types + 1), below(3), packed(Math.max(1, m.types)));
                break;
            default:
                begin(below(9) - 1, packed(below(2) == 0 ? 16 : Math.max(1, m.types)));
        }
    }

    private void play() {
        if (below(10) == 0) {
            due("rule()", m.rule(), x.rule());
            due("put(0)", m.put(0), x.put(0));
            due("lead()", m.lead(), x.lead());
        }
        signature();
        int first = m.function == null ? 0 : below(10);
        for (int i = 0; i < first && hasCalls(80); i++) {
            putRow(0);
            rule();
        }
        for (int step = 0; step < CALLS && hasCalls(1); step++) {
            int pick = below(30);
            if (pick == 0) {
                change();
            } else if (pick < 4 && m.function != null && hasCalls(60)) {
                putRow(0);
                rule();
            } else if (pick < 10 && m.function != null && hasCalls(60)) {
                putRow(1);
                lead();
            } else {
                ask();
            }
        }
        whole();
        for (int i = 0; i < seen.length; i++) {
            ALL_SEEN[i] += seen[i];
        }
    }

    /** Behind the run: the tree as it stands then, in full. */
    private void whole() {
        int size = m.size();
        List<Model.Node> nodes = m.nodes();
        Check.due("run " + run + " at its end: size()", size, x.size());
        for (int k = 0; k < size; k++) {
            int last = 5 + nodes.get(k).position.size();
            for (int what = 0; what <= last; what++) {
                String call = "run " + run + " at its end: node(" + k + ", " + what + ")";
                Check.due(call, Model.node(nodes, k, what), x.node(k, what));
            }
        }
        for (int i = 0; i < m.rules.size(); i++) {
            for (int j = 0; j < m.rules.size(); j++) {
                Check.due("run " + run + " at its end: clash(" + i + ", " + j + ")", m.clash(i, j), x.clash(i, j));
            }
        }
    }

    public static void main(String[] args) {
        for (int run = 0; run < RUNS && !Check.anyWrong(); run++) {
            new ModelTest(run).play();
        }
        String[] names = {"rules", "wrong rules", "leads to several", "too long", "free asks", "covered"};
        for (int i = 0; i < names.length; i++) {
            System.out.println(names[i] + ": " + ALL_SEEN[i]);
            Check.due("some " + names[i], true, ALL_SEEN[i] > 0);
        }
        Check.end();
    }
}
