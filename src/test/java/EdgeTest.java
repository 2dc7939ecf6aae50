import java.util.ArrayList;
import java.util.List;

/** The longest, the deepest and the most that the document allows within 512 calls. */
public final class EdgeTest {
    private static final int ZERO = 0;
    private static final int NEXT = 1;
    private static final int FOUR = 2;

    private static NeededTrees x;
    private static int calls;

    private static void due(String call, int want, int got) {
        calls++;
        Check.due(call, want, got);
    }

    /** One type: ZERO, NEXT of one and FOUR of four of it; a function of n such arguments. */
    private static void start(int n) {
        x = new NeededTrees();
        calls = 5;
        x.type();
        x.constructor(0, 0, 0);
        x.constructor(0, 1, 0);
        x.constructor(0, 4, 0);
        x.begin(n, 0);
    }

    private static void row(List<Integer> numbers) {
        calls += numbers.size();
        for (int v : numbers) {
            x.put(v);
        }
    }

    private static int rule(List<Integer> numbers) {
        row(numbers);
        calls++;
        return x.rule();
    }

    private static int lead(List<Integer> numbers) {
        row(numbers);
        calls++;
        return x.lead();
    }

    private static void end(String name) {
        Check.due(name + " takes no more than 512 calls", true, calls <= 512);
    }

    private static List<Integer> chain(int nexts, int last) {
        List<Integer> all = new ArrayList<>();
        for (int i = 0; i < nexts; i++) {
            all.add(NEXT);
        }
        all.add(last);
        return all;
    }

    /** NEXTs round 20 FOURS, whose 61 parts are name 0 so many times, then ZERO. */
    private static List<Integer> wide(int nexts, int names) {
        List<Integer> all = chain(nexts, FOUR);
        int left = names;
        for (int four = 0; four < 20; four++) {
            int parts = four < 19 ? 3 : 4;
            for (int i = 0; i < parts; i++) {
                all.add(left-- > 0 ? -1 : ZERO);
            }
            if (four < 19) {
                all.add(FOUR);
            }
        }
        return all;
    }

    private static List<Integer> join(List<Integer> a, List<Integer> b) {
        List<Integer> all = new ArrayList<>(a);
        all.addAll(b);
        return all;
    }

    private static void deepRules() {
        start(1);
        due("a rule of 160", 0, rule(chain(159, ZERO)));
        due("another, with a variable", 1, rule(chain(159, -1)));
        due("the third", 2, rule(chain(158, ZERO)));
        due("size", 164, x.size());
        due("deepest", 161, x.count(8));
        due("branches", 160, x.count(7));
        due("places", 160, x.node(161, 1));
        due("last place", 0, x.node(161, 164));
        due("beyond it", -9, x.node(161, 165));
        due("lead", 3, lead(chain(0, -1)));
        due("asks", 159, x.outcome(0, 1));
        due("free asks", 159, x.outcome(0, 2));
        due("numbers", 159, x.outcome(0, 3));
        due("asks", 160, x.outcome(1, 1));
        due("last number", 0, x.outcome(1, 163));
        due("asks", 159, x.outcome(2, 1));
        due("last number", -1, x.outcome(2, 163));
        end("deepRules");
    }

    private static void deepTerms() {
        start(1);
        rule(chain(100, -1));
        due("160 numbers", 1, lead(chain(159, -8)));
        due("numbers", 160, x.outcome(0, 3));
        due("last", -1, x.outcome(0, 163));
        due("no room for the end", -162, lead(chain(159, NEXT)));
        end("deepTerms");
    }

    private static void fourHundred() {
        start(2);
        rule(List.of(FOUR, -1, -1, -1, -1, -1));
        rule(List.of(ZERO, -1));
        List<Integer> just = join(List.of(-1), wide(78, 59));
        List<Integer> over = join(List.of(-1), wide(75, 60));
        due("400", 2, lead(just));
        due("400", 160, x.outcome(0, 3));
        due("400", 400, x.outcome(1, 3));
        due("the last", ZERO, x.outcome(1, 403));
        due("beyond", -9, x.outcome(1, 404));
        due("names", -1, x.outcome(1, 5));
        due("names", -4, x.outcome(1, 8));
        due("401", -1000, lead(over));
        due("none then", 0, x.count(5));
        due("none then", -9, x.outcome(0, 0));
        end("fourHundred");
    }

    private static void longOnAWayThatEnds() {
        start(3);
        rule(List.of(FOUR, -1, -1, -1, -1, -1, ZERO));
        rule(List.of(NEXT, ZERO, -1, -1));
        List<Integer> over = join(List.of(-1), wide(74, 60));
        due("only outcomes count", 1, lead(join(over, List.of(NEXT, ZERO))));
        due("of rule 1", 1, x.outcome(0, 0));
        due("numbers", 158 + 61, x.outcome(0, 3));
        due("but these do", -1000, lead(join(over, List.of(-2))));
        end("longOnAWayThatEnds");
    }

    private static void manyLongOutcomes() {
        start(2);
        for (int r = 0; r < 24; r++) {
            due("rule", r, rule(List.of(FOUR, -1, -1, -1, -1, -1)));
        }
        due("all", 24, lead(join(List.of(-1), wide(78, 59))));
        for (int i = 0; i < 24; i++) {
            due("rule", i, x.outcome(i, 0));
            due("numbers", 400, x.outcome(i, 3));
            due("last", ZERO, x.outcome(i, 403));
            due("first", FOUR, x.outcome(i, 4));
        }
        due("size", 26, x.size());
        end("manyLongOutcomes");
    }

    private static void manyNames() {
        start(1);
        List<Integer> patterns = new ArrayList<>();
        for (int i = 0; i < 157; i++) {
            patterns.add(i < 39 ? FOUR : -1);
        }
        due("rule", 0, rule(patterns));
        due("lead", 1, lead(List.of(-1)));
        due("asks", 39, x.outcome(0, 1));
        due("free asks", 39, x.outcome(0, 2));
        for (int i = 0; i < 157; i++) {
            due("number " + i, i < 39 ? FOUR : 38 - i, x.outcome(0, 4 + i));
        }
        end("manyNames");
    }

    /** Rules that need ever other positions: ORS in ORS. */
    private static void orsInOrs() {
        start(6);
        for (int r = 0; r < 24; r++) {
            List<Integer> patterns = new ArrayList<>();
            for (int a = 0; a < 6; a++) {
                patterns.add(r >= 4 * a && r < 4 * a + 2 ? ZERO : -1);
            }
            rule(patterns);
        }
        due("ors", 18, x.count(6));
        due("all but none", 24, lead(List.of(-1, -1, -1, -1, -1, -1)));
        end("orsInOrs");
    }

    public static void main(String[] args) {
        deepRules();
        deepTerms();
        fourHundred();
        longOnAWayThatEnds();
        manyLongOutcomes();
        manyNames();
        orsInOrs();
        Check.end();
    }
}
