/** Each promise of the document: ordinary inputs, the edges that it names, and wrong inputs. */
public final class PromiseTest {
    private static final int NONE = -1;
    private static final int NO_SUCH = -9;

    private static NeededTrees x;
    private static String promise;

    private static void due(String call, int want, int got) {
        Check.due(promise + ": " + call, want, got);
    }

    private static void due(String call, boolean want, boolean got) {
        Check.due(promise + ": " + call, want, got);
    }

    private static void start(String name) {
        promise = name;
        x = new NeededTrees();
    }

    /** Types 0 (zero 0, next 1 of one) and 1 (empty 2, pair 3 of type 0 and type 1). */
    private static void startLists(String name) {
        start(name);
        x.type();
        x.type();
        x.constructor(0, 0, 0);
        x.constructor(0, 1, 0);
        x.constructor(1, 0, 0);
        x.constructor(1, 2, 0x10);
    }

    private static void row(int... numbers) {
        for (int v : numbers) {
            x.put(v);
        }
    }

    private static int rule(int... numbers) {
        row(numbers);
        return x.rule();
    }

    private static int lead(int... numbers) {
        row(numbers);
        return x.lead();
    }

    private static void dueNode(int k, int... all) {
        for (int what = 0; what < all.length; what++) {
            due("node(" + k + ", " + what + ")", all[what], x.node(k, what));
        }
        due("node(" + k + ") ends", NO_SUCH, x.node(k, all.length));
    }

    private static void dueOutcome(int i, int... all) {
        for (int what = 0; what < all.length; what++) {
            due("outcome(" + i + ", " + what + ")", all[what], x.outcome(i, what));
        }
        due("outcome(" + i + ") ends", NO_SUCH, x.outcome(i, all.length));
    }

    private static void promise1NewObject() {
        start("1 a new object");
        due("NONE", -1, NeededTrees.NONE);
        int[] counts = {0, 0, 0, NONE, 0, 0, 0, 0, 0};
        for (int what = 0; what < counts.length; what++) {
            due("count(" + what + ")", counts[what], x.count(what));
        }
        due("size()", 0, x.size());
        due("covers()", false, x.covers());
        due("clash(0, 0)", false, x.clash(0, 0));
        due("node(0, 0)", NO_SUCH, x.node(0, 0));
        due("outcome(0, 0)", NO_SUCH, x.outcome(0, 0));
        due("rule()", NONE, x.rule());
        due("lead()", NONE, x.lead());
        due("put(7)", 1, x.put(7));
        due("another's row", 0, new NeededTrees().count(4));
    }

    private static void promise2Type() {
        start("2 type");
        for (int i = 0; i < 12; i++) {
            due("type()", i, x.type());
        }
        due("type() of 12", NONE, x.type());
        due("type() of 12 again", NONE, x.type());
        due("count(0)", 12, x.count(0));
        due("constructor of the last", 0, x.constructor(11, 1, 11));
        startLists("2 type");
        x.begin(1, 0);
        rule(-1);
        lead(0);
        due("type()", 2, x.type());
        due("outcomes stay", 1, x.count(5));
    }

    private static void promise3Constructor() {
        start("3 constructor");
        due("without types", NONE, x.constructor(0, 0, 0));
        x.type();
        x.type();
        due("no such type", NONE, x.constructor(2, 0, 0));
        due("type below 0", NONE, x.constructor(-1, 0, 0));
        due("arity 5", NONE, x.constructor(0, 5, 0));
        due("arity below 0", NONE, x.constructor(0, -1, 0));
        due("first argument's type", NONE, x.constructor(0, 1, 2));
        due("last argument's type", NONE, x.constructor(0, 4, 0x2000));
        due("count(1)", 0, x.count(1));
        due("other bits", 0, x.constructor(0, 0, -1));
        due("other bits above", 1, x.constructor(1, 4, 0xFFFF1010));
        due("smallest arity", 2, x.constructor(0, 1, Integer.MIN_VALUE));
        x.begin(1, 1);
        due("types of its arguments", 0, rule(1, 0, 1, -1, -1, -1, -1, 2, -1, -1));
        due("first of the other type", -3, rule(1, 1));
        due("second of the other type", -4, rule(1, 0, 0));
        for (int c = 3; c < 60; c++) {
            due("constructor", c, x.constructor(c % 2, 0, 0));
        }
        due("of 60", NONE, x.constructor(0, 0, 0));
        due("count(1)", 60, x.count(1));
        startLists("3 constructor");
        x.begin(1, 0);
        rule(-1);
        lead(0);
        due("not done", NONE, x.constructor(9, 0, 0));
        due("outcomes stay", 1, x.count(5));
        due("done", 4, x.constructor(0, 0, 0));
        due("no outcomes then", 0, x.count(5));
        due("none to tell", NO_SUCH, x.outcome(0, 0));
        due("rules stay", 1, x.count(2));
    }

    private static void promise4Begin() {
        start("4 begin");
        due("no type", false, x.begin(1, 0));
        due("no function", NONE, x.count(3));
        due("no arguments", true, x.begin(0, -1));
        due("count(3)", 0, x.count(3));
        startLists("4 begin");
        due("six", true, x.begin(6, 0xFF101010));
        due("count(3)", 6, x.count(3));
        due("types", 0, rule(0, 2, 0, 2, 0, 2));
        due("type of the last", -7, rule(0, 2, 0, 2, 0, 0));
        due("lead", 1, lead(-1, -2, -1, -2, -1, -2));
        row(5);
        due("seven", false, x.begin(7, 0));
        due("below 0", false, x.begin(-1, 0));
        due("last has no type", false, x.begin(6, 0x200000));
        due("all stays: arguments", 6, x.count(3));
        due("all stays: rules", 1, x.count(2));
        due("all stays: outcomes", 1, x.count(5));
        due("all stays: tree", 7, x.size());
        due("anew", true, x.begin(1, 1));
        due("arguments", 1, x.count(3));
        due("rules", 0, x.count(2));
        due("outcomes", 0, x.count(5));
        due("tree", 0, x.size());
        due("clash", false, x.clash(0, 0));
        due("the row stays", 1, x.count(4));
        due("first rule", -2, x.rule());
        due("first rule", 0, rule(2));
    }

    private static void promise5Put() {
        start("5 put");
        for (int i = 1; i <= 160; i++) {
            due("put", i, x.put(i % 2 == 0 ? Integer.MIN_VALUE : Integer.MAX_VALUE));
        }
        due("put to 160", NONE, x.put(0));
        due("count(4)", 160, x.count(4));
        due("rule()", NONE, x.rule());
        due("taken", 0, x.count(4));
        due("put", 1, x.put(0));
        due("lead()", NONE, x.lead());
        due("taken", 0, x.count(4));
        x.begin(0, 0);
        x.put(0);
        due("rule()", -2, x.rule());
        due("taken", 0, x.count(4));
        x.put(0);
        due("lead()", -2, x.lead());
        due("taken", 0, x.count(4));
    }

    private static void promise6Rule() {
        startLists("6 rule");
        due("no function", NONE, rule(0));
        x.begin(2, 0x10);
        due("the end", -2, rule());
        due("the end behind an argument", -3, rule(0));
        due("the end in a pattern", -6, rule(1, 0, 3, -1));
        due("one too many", -4, rule(0, 2, 0));
        due("one too many, and that wrong", -4, rule(0, 2, 99));
        due("no variable", -2, rule(-2, 2));
        due("no constructor", -3, rule(0, 4));
        due("the next constructor, not made yet", -2, rule(4, 2));
        due("another type", -2, rule(2, 2));
        due("another type within", -5, rule(0, 3, -1, 1));
        due("the first of two", -3, rule(1, 2, 77));
        due("far off", -2, rule(Integer.MIN_VALUE, 2));
        due("far off", -2, rule(Integer.MAX_VALUE, 2));
        due("none yet", 0, x.count(2));
        due("rule", 0, rule(0, 2));
        due("lead", 1, lead(0, 2));
        due("not done", -2, rule());
        due("outcomes stay", 1, x.count(5));
        due("rule", 1, rule(1, 1, -1, 3, 0, 3, -1, -1));
        due("no outcomes then", 0, x.count(5));
        for (int i = 2; i < 24; i++) {
            due("rule", i, rule(-1, -1));
        }
        lead(0, 2);
        due("of 24", NONE, rule(-1, -1));
        due("of 24, also a wrong one", NONE, rule(99));
        due("taken", 0, x.count(4));
        due("count(2)", 24, x.count(2));
        due("outcomes stay", 23, x.count(5));
        start("6 rule");
        x.type();
        x.constructor(0, 1, 0);
        x.begin(2, 0);
        due("the first constructor has arguments", 0, rule(0, 0, -1, -1));
        due("one too few of these", -4, rule(0, -1));
    }

    private static void promise7Lead() {
        startLists("7 lead");
        due("no function", NONE, lead(0));
        x.begin(2, 0x10);
        due("no rules", 0, lead(0, 2));
        due("the end", -3, lead(0));
        due("one too many", -4, lead(0, 2, 2));
        due("name 8", -2, lead(-9, 2));
        due("name 7", 0, lead(-8, -1));
        due("far off", -2, lead(Integer.MIN_VALUE, 2));
        due("a name of two types", -3, lead(-1, -1));
        due("a name of two types within", -5, lead(-1, 3, -2, -1));
        due("a name twice", 0, lead(-1, 3, -1, -2));
        due("names are anew each time", 0, lead(-2, -1));
        rule(0, -1);
        rule(1, 0, 3, -1, -1);
        rule(-1, 2);
        due("none", 0, lead(1, 1, 0, 3, 0, 2));
        due("one", 1, lead(0, 3, 0, 2));
        due("two", 2, lead(0, 2));
        due("names", 3, lead(-1, -2));
        due("counted", 3, x.count(5));
        due("wrong", -2, lead());
        due("no outcomes then", 0, x.count(5));
        x.begin(3, 0);
        rule(0, -1, 1, -1);
        rule(1, -1, -1, 0);
        due("the name wherever it stands", 0, lead(-1, 0, -1));
        due("two names", 2, lead(-1, 0, -2));
    }

    private static void promise8Outcome() {
        startLists("8 outcome");
        x.begin(2, 0x10);
        rule(0, -1);
        rule(1, 1, -1, 3, -1, -1);
        rule(1, -1, 3, 0, -1);
        lead(-5, 3, -5, -2);
        dueOutcome(0, 0, 1, 1, 4, 0, 3, 0, -1);
        dueOutcome(1, 1, 3, 2, 8, 1, 1, -1, 3, 1, 1, -1, -2);
        due("no third", NO_SUCH, x.outcome(2, 0));
        due("what below 0", NO_SUCH, x.outcome(0, -1));
        due("i below 0", NO_SUCH, x.outcome(-1, 0));
        due("far off", NO_SUCH, x.outcome(0, Integer.MAX_VALUE));
        due("far off", NO_SUCH, x.outcome(Integer.MAX_VALUE, Integer.MIN_VALUE));
        lead(-3, -8);
        dueOutcome(0, 0, 1, 1, 2, 0, -1);
        dueOutcome(1, 1, 3, 3, 6, 1, 1, -1, 3, -2, -3);
        dueOutcome(2, 2, 3, 3, 5, 1, -1, 3, 0, -2);
        due("it may be told again", 2, x.outcome(2, 0));
        lead(1, -1, 3, -1, -2);
        dueOutcome(0, 1, 3, 1, 7, 1, 1, -1, 3, 1, -1, -2);
        dueOutcome(1, 2, 3, 1, 5, 1, 0, 3, 0, -1);
        lead(1, 0, 2);
        due("none", NO_SUCH, x.outcome(0, 0));
        x.begin(0, 0);
        rule();
        lead();
        dueOutcome(0, 0, 0, 0, 0);
    }

    private static void promise9Size() {
        startLists("9 size");
        due("no function", 0, x.size());
        x.begin(2, 0);
        due("no rules", 0, x.size());
        rule(-1, -1);
        due("a leaf", 1, x.size());
        rule(-1, -1);
        due("an or of leaves", 3, x.size());
        rule(-1, 0);
        due("an or of an or of leaves and a branch", 6, x.size());
        rule(99);
        due("a wrong rule", 6, x.size());
        x.constructor(0, 0, 0);
        due("another constructor", 6, x.size());
        x.begin(2, 0);
        due("anew", 0, x.size());
    }

    private static void promise10Node() {
        startLists("10 node");
        x.begin(2, 0x10);
        rule(-1, 3, 1, -1, -1);
        rule(-1, 3, 0, 2);
        rule(0, 2);
        rule(-1, 3, 0, -1);
        dueNode(0, 1, 1, 2, NONE, 0, 1);
        dueNode(1, 1, 1, 1, 2, 1, 0);
        dueNode(2, 0, 2, 0, 0, 2);
        dueNode(3, 1, 2, 2, 3, 1, 1, 0);
        dueNode(4, 2, 0, 2, 0, 2);
        dueNode(5, 1, 2, 1, NONE, 3, 1, 1);
        dueNode(6, 0, 1, 0, 2, 4);
        dueNode(7, 0, 3, 0, NONE, 3);
        dueNode(8, 0, 0, 0, 1, 2);
        due("size()", 9, x.size());
        due("no ninth", NO_SUCH, x.node(9, 0));
        due("k below 0", NO_SUCH, x.node(-1, 0));
        due("what below 0", NO_SUCH, x.node(0, -1));
        due("far off", NO_SUCH, x.node(0, Integer.MAX_VALUE));
        due("far off", NO_SUCH, x.node(Integer.MIN_VALUE, Integer.MIN_VALUE));
        x.begin(2, 0);
        rule(0, -1);
        rule(-1, 0);
        rule(-1, -1);
        rule(1, -1, 1, -1);
        rule(0, 0);
        due("size()", 12, x.size());
        dueNode(0, 2, 0, 3, NONE, 0);
        dueNode(1, 1, 1, 1, NONE, 1, 0);
        dueNode(2, 0, 0, 0, 0, 2);
        dueNode(3, 2, 0, 2, NONE, 1);
        dueNode(4, 1, 1, 1, NONE, 2, 1);
        dueNode(5, 0, 1, 0, 0, 3);
        dueNode(6, 0, 2, 0, NONE, 2);
        dueNode(7, 1, 1, 2, NONE, 1, 0);
        dueNode(8, 1, 1, 1, 0, 2, 1);
        dueNode(9, 0, 4, 0, 0, 3);
        dueNode(10, 1, 1, 1, 1, 2, 1);
        dueNode(11, 0, 3, 0, 1, 3);
    }

    private static void promise11Covers() {
        startLists("11 covers");
        due("no function", false, x.covers());
        x.begin(2, 0x10);
        due("no rules", false, x.covers());
        rule(0, -1);
        due("one of two", false, x.covers());
        rule(1, -1, 2);
        due("a child that doesn't", false, x.covers());
        rule(1, -1, 3, -1, -1);
        due("all", true, x.covers());
        due("another constructor", 4, x.constructor(0, 0, 0));
        due("all but the new one", false, x.covers());
        rule(-1, -1);
        due("an or", true, x.covers());
        x.begin(1, 1);
        rule(-1);
        due("a leaf", true, x.covers());
        x.begin(2, 0x10);
        rule(0, -1);
        rule(-1, 2);
        due("an or of none", false, x.covers());
        x.begin(1, 1);
        rule(2);
        rule(3, -1, -1);
        due("only constructors of its type", true, x.covers());
        x.begin(2, 0x11);
        rule(2, 2);
        rule(3, -1, -1, 2);
        due("one of two, twice", false, x.covers());
        x.begin(2, 0x11);
        rule(2, -1);
        rule(-1, 2);
        due("an or of two that have one of two", false, x.covers());
        x.begin(0, 0);
        rule();
        rule();
        due("an or of leaves", true, x.covers());
    }

    private static void promise12Clash() {
        startLists("12 clash");
        due("no function", false, x.clash(0, 0));
        x.begin(2, 0x10);
        rule(0, -1);
        rule(-1, 2);
        rule(1, -1, 3, 0, -1);
        rule(1, 1, 0, 3, -1, 2);
        rule(1, 0, 3, -1, 3, -1, -1);
        int[][] met = {{1, 1, 0, 0, 0}, {1, 1, 0, 0, 0}, {0, 0, 1, 1, 1}, {0, 0, 1, 1, 0}, {0, 0, 1, 0, 1}};
        for (int i = 0; i < 5; i++) {
            for (int j = 0; j < 5; j++) {
                due("clash(" + i + ", " + j + ")", met[i][j] == 1, x.clash(i, j));
            }
        }
        due("no such", false, x.clash(0, 5));
        due("no such", false, x.clash(5, 0));
        due("no such", false, x.clash(5, 5));
        due("no such", false, x.clash(0, -1));
        due("no such", false, x.clash(-1, 0));
        due("far off", false, x.clash(Integer.MAX_VALUE, Integer.MIN_VALUE));
        x.type();
        x.begin(1, 2);
        rule(-1);
        due("of a type without constructors, by patterns alone", true, x.clash(0, 0));
    }

    private static void promise13Count() {
        startLists("13 count");
        due("what 3", NONE, x.count(3));
        x.begin(2, 0x10);
        rule(-1, 3, 1, -1, -1);
        rule(-1, 3, 0, 2);
        rule(0, 2);
        rule(-1, 3, 0, -1);
        lead(-1, -2);
        row(1, 2, 3);
        int[] counts = {2, 4, 4, 2, 3, 4, 1, 4, 4};
        for (int what = 0; what < counts.length; what++) {
            due("count(" + what + ")", counts[what], x.count(what));
        }
        due("what 9", NO_SUCH, x.count(9));
        due("what below 0", NO_SUCH, x.count(-1));
        due("far off", NO_SUCH, x.count(Integer.MIN_VALUE));
        due("far off", NO_SUCH, x.count(Integer.MAX_VALUE));
        x.begin(1, 0);
        int[] anew = {2, 4, 0, 1, 3, 0, 0, 0, 0};
        for (int what = 0; what < anew.length; what++) {
            due("count(" + what + ")", anew[what], x.count(what));
        }
    }

    public static void main(String[] args) {
        promise1NewObject();
        promise2Type();
        promise3Constructor();
        promise4Begin();
        promise5Put();
        promise6Rule();
        promise7Lead();
        promise8Outcome();
        promise9Size();
        promise10Node();
        promise11Covers();
        promise12Clash();
        promise13Count();
        Check.end();
    }
}
