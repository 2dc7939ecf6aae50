import java.util.ArrayList;
import java.util.List;

/**
 * Words of the document, and an object on which they are tested. The calls of the object are
 * counted, so that no test rests on what it answers behind its 512th one.
 */
final class Sentence {
    static final int NONE = -1;
    static final int NO_SUCH = -9;

    private static final List<Sentence> ALL = new ArrayList<>();

    private final String section;
    private final String words;
    private NeededTrees x;
    private int calls;

    Sentence(String section, String words) {
        this.section = section;
        this.words = words;
        ALL.add(this);
        anew();
    }

    /** Each test's words stand in the document, and each sentence of these sections has a test. */
    static void dueAllOf(Document document, List<String> sections) {
        for (Sentence one : ALL) {
            boolean stands = document.sentences(one.section).stream().anyMatch(s -> s.contains(one.words));
            one.due("stands in the document", true, stands);
        }
        for (String section : sections) {
            Check.due(section + " is in the document", true, !document.sentences(section).isEmpty());
            for (String sentence : document.sentences(section)) {
                boolean tested = ALL.stream().anyMatch(one -> one.section.equals(section) && sentence.contains(one.words));
                Check.due(section + ", \"" + sentence + "\" has a test", true, tested);
            }
        }
    }

    void due(String what, int want, int got) {
        Check.due(section + ", \"" + words + "\": " + what, want, got);
    }

    void due(String what, boolean want, boolean got) {
        Check.due(section + ", \"" + words + "\": " + what, want, got);
    }

    void anew() {
        x = new NeededTrees();
        calls = 0;
    }

    int calls() {
        return calls;
    }

    private NeededTrees called() {
        calls++;
        if (calls > 512) {
            due("calls", 512, calls);
        }
        return x;
    }

    /** An object that may be used for more calls than the document speaks of. */
    NeededTrees uncounted() {
        return x;
    }

    /** Type 0 has zero 0 and next 1 (of type 0), type 1 has empty 2 and pair 3 (of types 0 and 1). */
    void lists() {
        type();
        type();
        constructor(0, 0, 0);
        constructor(0, 1, 0);
        constructor(1, 0, 0);
        constructor(1, 2, 0x10);
    }

    /** Type 0 has zero 0, next 1 of one and four 2 of four of it; a function of n such arguments. */
    void numbers(int n) {
        type();
        constructor(0, 0, 0);
        constructor(0, 1, 0);
        constructor(0, 4, 0);
        begin(n, 0);
    }

    int type() {
        return called().type();
    }

    void types(int many) {
        for (int i = 0; i < many; i++) {
            type();
        }
    }

    int constructor(int type, int arity, int types) {
        return called().constructor(type, arity, types);
    }

    boolean begin(int n, int types) {
        return called().begin(n, types);
    }

    int put(int v) {
        return called().put(v);
    }

    void row(int... numbers) {
        for (int v : numbers) {
            put(v);
        }
    }

    /** The same number so many times. */
    void rowOf(int many, int v) {
        for (int i = 0; i < many; i++) {
            put(v);
        }
    }

    int rule(int... numbers) {
        row(numbers);
        return called().rule();
    }

    int lead(int... numbers) {
        row(numbers);
        return called().lead();
    }

    int outcome(int i, int what) {
        return called().outcome(i, what);
    }

    int size() {
        return called().size();
    }

    int node(int k, int what) {
        return called().node(k, what);
    }

    boolean covers() {
        return called().covers();
    }

    boolean clash(int i, int j) {
        return called().clash(i, j);
    }

    int count(int what) {
        return called().count(what);
    }

    void dueRule(String what, int want, int... numbers) {
        due(what, want, rule(numbers));
    }

    void dueLead(String what, int want, int... numbers) {
        due(what, want, lead(numbers));
    }

    void dueCount(int what, int want) {
        due("count(" + what + ")", want, count(what));
    }

    /** All that is told of a node, and nothing behind it. */
    void dueNode(int k, int... all) {
        for (int what = 0; what < all.length; what++) {
            due("node(" + k + ", " + what + ")", all[what], node(k, what));
        }
        due("node(" + k + ", " + all.length + ")", NO_SUCH, node(k, all.length));
    }

    /** Of each node of the tree, what it is and, of a LEAF, which rule's: pairs of these. */
    void dueTree(String what, int... pairs) {
        due(what + ": size()", pairs.length / 2, size());
        for (int k = 0; 2 * k < pairs.length; k++) {
            due(what + ": node(" + k + ", 0)", pairs[2 * k], node(k, 0));
            due(what + ": node(" + k + ", 1)", pairs[2 * k + 1], node(k, 1));
        }
    }

    /** All that is told of an outcome, and nothing behind it. */
    void dueOutcome(int i, int... all) {
        for (int what = 0; what < all.length; what++) {
            due("outcome(" + i + ", " + what + ")", all[what], outcome(i, what));
        }
        due("outcome(" + i + ", " + all.length + ")", NO_SUCH, outcome(i, all.length));
    }

    /** The rules of all outcomes. */
    void dueOutcomes(String what, int... rules) {
        due(what + ": count(5)", rules.length, count(5));
        for (int i = 0; i < rules.length; i++) {
            due(what + ": outcome(" + i + ", 0)", rules[i], outcome(i, 0));
        }
        due(what + ": outcome(" + rules.length + ", 0)", NO_SUCH, outcome(rules.length, 0));
    }
}
