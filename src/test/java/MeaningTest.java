import java.util.ArrayList;
import java.util.List;

/**
 * What the answers mean, whatever tree there is: terms are led to just the rules with which they
 * have something in common, and become what they have in common with them.
 */
public final class MeaningTest {
    private static final int RUNS = 4000;
    private static final int CALLS = 512;

    private static int reached;
    private static int missed;
    private static int tooLong;
    private static int sharedNames;
    private static int coverings;

    private final int run;
    private final Dice dice;
    private final NeededTrees x = new NeededTrees();
    private final List<Integer> types = new ArrayList<>();
    private final List<Integer> arities = new ArrayList<>();
    private final List<Integer> packed = new ArrayList<>();
    private final List<List<Integer>> rules = new ArrayList<>();
    private final List<Integer> leaves = new ArrayList<>();
    private int arguments;
    private int argumentTypes;
    private int manyTypes;
    private int calls;

    private MeaningTest(int run) {
        this.run = run;
        this.dice = new Dice(run * 0x9E3779B97F4A7C15L + 99);
    }

    private void due(String what, int want, int got) {
        Check.due("run " + run + " call " + calls + ": " + what, want, got);
    }

    private int called(int answer) {
        calls++;
        return answer;
    }

    private boolean hasCalls(int many) {
        return calls + many <= CALLS;
    }

    private static int typeAt(int packed, int place) {
        return packed >> 4 * place & 15;
    }

    private int anyTypes() {
        int all = 0;
        for (int place = 0; place < 6; place++) {
            all |= dice.below(manyTypes) << 4 * place;
        }
        return all;
    }

    private void signature() {
        manyTypes = 1 + dice.below(3);
        for (int t = 0; t < manyTypes; t++) {
            called(x.type());
        }
        int many = 2 * manyTypes + dice.below(4);
        for (int c = 0; c < many; c++) {
            // Each type has a constructor without arguments, so that each has terms without names.
            int type = c < manyTypes ? c : dice.below(manyTypes);
            int arity = c < manyTypes ? 0 : dice.below(5);
            types.add(type);
            arities.add(arity);
            packed.add(anyTypes());
            due("constructor", c, called(x.constructor(type, arity, packed.get(c))));
        }
        arguments = 1 + dice.below(4);
        argumentTypes = anyTypes();
        calls++;
        x.begin(arguments, argumentTypes);
    }

    private List<Integer> constructorsOf(int type, boolean withArguments) {
        List<Integer> all = new ArrayList<>();
        for (int c = 0; c < types.size(); c++) {
            if (types.get(c) == type && (!withArguments || arities.get(c) > 0)) {
                all.add(c);
            }
        }
        return all;
    }

    /**
     * How deep terms are, how often of ten times a name comes, from how many of each type (0: each is
     * a variable), and how many numbers there are before one comes.
     */
    private record Shape(int depth, int often, int names, int least) {
    }

    private void any(int type, int depth, Shape shape, List<Integer> into) {
        boolean mustGrow = !into.isEmpty() && into.size() < shape.least;
        boolean isName = depth <= 0 || !mustGrow && dice.below(10) < shape.often;
        if (shape.often > 0 && isName) {
            into.add(shape.names == 0 ? -1 : -1 - type - manyTypes * dice.below(shape.names));
            return;
        }
        List<Integer> fit = constructorsOf(type, mustGrow);
        int c = fit.isEmpty() || depth <= 0 ? type : fit.get(dice.below(fit.size()));
        into.add(c);
        for (int i = 0; i < arities.get(c); i++) {
            any(typeAt(packed.get(c), i), depth - 1, shape, into);
        }
    }

    private List<Integer> anyRow(Shape shape) {
        List<Integer> row = new ArrayList<>();
        for (int i = 0; i < arguments; i++) {
            any(typeAt(argumentTypes, i), shape.depth, shape, row);
        }
        return row;
    }

    private void put(List<Integer> row) {
        for (int v : row) {
            called(x.put(v));
        }
    }

    private void rules() {
        int many = 1 + dice.below(8);
        for (int r = 0; r < many; r++) {
            List<Integer> row = anyRow(new Shape(1 + dice.below(3), 4, 0, 0));
            if (row.size() <= 20) {
                put(row);
                due("rule()", rules.size(), called(x.rule()));
                rules.add(row);
            }
        }
    }

    private List<Common> patterns(int rule) {
        return Common.read(rules.get(rule), arities, true);
    }

    private void dueClashes() {
        for (int i = 0; i < rules.size(); i++) {
            int j = dice.below(rules.size());
            due("clash(" + i + ", " + j + ")", Common.meet(patterns(i), patterns(j)) ? 1 : 0, called(x.clash(i, j) ? 1 : 0));
        }
    }

    /** Each rule has one LEAF; in the order of these the outcomes come. */
    private void readLeaves() {
        int size = called(x.size());
        for (int k = 0; k < size && hasCalls(2); k++) {
            if (called(x.node(k, 0)) == 0) {
                leaves.add(called(x.node(k, 1)));
            }
        }
        due("LEAVES", rules.size(), leaves.size());
        for (int r = 0; r < rules.size(); r++) {
            due("has a LEAF: rule " + r, 1, leaves.contains(r) ? 1 : 0);
        }
    }

    /** What an outcome of this rule must tell; null if there must be none. */
    private List<Integer> outcomeOf(int rule, List<Integer> row) {
        List<Common> terms = Common.read(row, arities, false);
        if (!Common.meet(patterns(rule), terms)) {
            return null;
        }
        List<Integer> numbers = Common.numbers(terms);
        List<String> free = new ArrayList<>();
        Common.free(patterns(rule), Common.read(row, arities, false), free);
        int asked = (int) rules.get(rule).stream().filter(v -> v >= 0).count();
        List<Integer> all = new ArrayList<>(List.of(rule, asked, free.size(), numbers.size()));
        all.addAll(numbers);
        return all;
    }

    private void dueLead(List<Integer> row) {
        List<List<Integer>> wanted = new ArrayList<>();
        boolean told = true;
        for (int rule : leaves) {
            List<Integer> outcome = outcomeOf(rule, row);
            missed += outcome == null ? 1 : 0;
            if (outcome != null) {
                wanted.add(outcome);
                told &= outcome.get(3) <= 400;
            }
        }
        put(row);
        due("lead()", told ? wanted.size() : -1000, called(x.lead()));
        reached += wanted.size();
        tooLong += told ? 0 : 1;
        for (int i = 0; told && i < wanted.size(); i++) {
            dueOutcome(i, wanted.get(i));
        }
    }

    private void dueOutcome(int i, List<Integer> wanted) {
        for (int what = 0; what < wanted.size() && hasCalls(1); what++) {
            due("outcome(" + i + ", " + what + ")", wanted.get(what), called(x.outcome(i, what)));
        }
        sharedNames += wanted.get(2) > 0 && wanted.get(2) < wanted.get(1) ? 1 : 0;
    }

    /** Terms that are a rule's own patterns reach the rules that clash with it. */
    private void duePatternsLed(int rule) {
        List<Integer> row = new ArrayList<>(rules.get(rule));
        if (row.stream().filter(v -> v < 0).count() > 8) {
            return;
        }
        int name = 0;
        for (int i = 0; i < row.size(); i++) {
            if (row.get(i) < 0) {
                name++;
                row.set(i, -name);
            }
        }
        int clashing = 0;
        for (int other = 0; other < rules.size(); other++) {
            clashing += called(x.clash(rule, other) ? 1 : 0);
        }
        put(row);
        due("lead() of the patterns of rule " + rule, clashing, called(x.lead()));
    }

    /** Where the tree covers, each of the terms without names has an outcome. */
    private void dueCovering() {
        calls++;
        if (!x.covers()) {
            return;
        }
        coverings++;
        for (int i = 0; i < 3; i++) {
            List<Integer> row = anyRow(new Shape(2, 0, 0, 0));
            if (row.size() <= 30) {
                put(row);
                due("lead() where it covers: some outcome", 1, called(x.lead()) > 0 ? 1 : 0);
            }
        }
    }

    private Shape anyShape() {
        switch (dice.below(4)) {
            case 0:
                return new Shape(4, 9, 1, 100);
            case 1:
                return new Shape(2, 0, 0, 0);
            default:
                return new Shape(1 + dice.below(3), 5, 1 + dice.below(2), 0);
        }
    }

    private void play() {
        signature();
        rules();
        if (rules.isEmpty()) {
            return;
        }
        dueClashes();
        readLeaves();
        dueCovering();
        duePatternsLed(dice.below(rules.size()));
        for (int i = 0; i < 20; i++) {
            List<Integer> row = anyRow(anyShape());
            if (row.size() <= 160 && hasCalls(row.size() + 1)) {
                dueLead(row);
            }
        }
        due("no more than 512 calls", 1, calls <= CALLS ? 1 : 0);
    }

    public static void main(String[] args) {
        for (int run = 0; run < RUNS && !Check.anyWrong(); run++) {
            new MeaningTest(run).play();
        }
        System.out.println("reached " + reached + ", missed " + missed + ", too long " + tooLong);
        System.out.println("asked more than names " + sharedNames + ", covering " + coverings);
        Check.due("all of these were seen", true, reached > 0 && missed > 0 && tooLong > 0 && sharedNames > 0 && coverings > 0);
        Check.end();
    }
}
