/** The boundary cases of "What it is" and of what "Terms" says ahead of the tree. */
final class TermsBoundaries {
    private static final int NONE = Sentence.NONE;
    private static final int NO_SUCH = Sentence.NO_SUCH;
    private static final int ZERO = 0;
    private static final int NEXT = 1;
    private static final int FOUR = 2;

    private TermsBoundaries() {
    }

    private static Sentence whatItIs(String words) {
        return new Sentence("What it is", words);
    }

    private static Sentence terms(String words) {
        return new Sentence("Terms", words);
    }

    static void test() {
        ledAlongTheTree();
        used512Calls();
        mostNodesOf512Calls();
        deepestTreeOf512Calls();
        usedFurther();
        types12();
        constructors60();
        arguments0To4();
        functions0To6();
        rules24();
        aPatternForEachArgument();
        aVariableOrAConstructorOfItsType();
        freeNames0To7();
        freeNamesOfOneType();
        row160();
        rowsNumbers();
        takenWhateverIsAnswered();
        placeOfTheFirstWrong();
        oneTooMany();
        theEnd();
        positionsFrom0();
    }

    private static void ledAlongTheTree() {
        Sentence s = whatItIs("along which terms, also with free names in them, are led to the rules that are theirs");
        s.lists();
        s.begin(1, 0);
        s.rule(ZERO);
        s.rule(NEXT, -1);
        s.dueLead("no free name", 1, NEXT, ZERO);
        s.dueOutcome(0, 1, 1, 0, 2, NEXT, ZERO);
        s.dueLead("nothing but a free name", 2, -1);
        s.dueOutcomes("nothing but a free name", 0, 1);
    }

    private static void used512Calls() {
        Sentence s = whatItIs("An object is used for at most 512 calls after it has been made");
        s.numbers(3);
        for (int r = 0; r < 3; r++) {
            s.rowOf(155, NEXT);
            s.dueRule("rules as long as they can be", r, ZERO, -1, r == 1 ? -1 : ZERO);
        }
        s.due("of so many calls", 482, s.calls());
        s.due("places of the last position that all need", 156, s.node(155, 1));
        s.due("children of the OR below", 3, s.node(156, 2));
        s.dueLead("all free", 3, -1, -2, -3);
        s.dueOutcomes("all free", 0, 1, 2);
        s.due("asked to the last rule", 157, s.outcome(2, 1));
        s.due("asked to the rule between", 156, s.outcome(1, 1));
        while (s.calls() < 511) {
            s.put(ZERO);
        }
        s.dueCount(4, 16);
        s.due("calls", 512, s.calls());
    }

    private static void mostNodesOf512Calls() {
        Sentence s = whatItIs("used for at most 512 calls");
        s.type();
        s.constructor(0, 0, 0);
        s.constructor(0, 1, 0);
        s.begin(1, 0);
        for (int r = 0; r < 5; r++) {
            if (r % 2 == 0) {
                s.rowOf(159, NEXT);
            }
            s.dueRule("rules that share nothing", r, r % 2 == 0 ? ZERO : -1);
        }
        s.due("nodes", 1 + 3 * 161 + 2, s.size());
        s.dueCount(7, 480);
        s.due("the last one is a LEAF", 0, s.node(485, 0));
        s.due("of the last rule", 4, s.node(485, 1));
        s.due("its depth", 161, s.node(485, 4));
        s.dueLead("all", 5, -1);
        s.due("the last number of the last", ZERO, s.outcome(4, 163));
    }

    private static void deepestTreeOf512Calls() {
        Sentence s = whatItIs("at most 512 calls after it has been made");
        s.type();
        s.constructor(0, 0, 0);
        s.constructor(0, 1, 0);
        s.begin(1, 0);
        for (int r = 0; r < 23; r++) {
            s.rowOf(r, NEXT);
            s.dueRule("an OR more on the way to the last", r, -1);
        }
        s.rowOf(159, NEXT);
        s.dueRule("the last", 23, ZERO);
        s.dueCount(6, 23);
        s.dueCount(7, 160);
        s.dueCount(8, 183);
        s.due("nodes", 23 + 160 + 24, s.size());
        s.due("the deepest", 183, s.node(206, 4));
        s.due("the first rule covers", true, s.covers());
        s.dueLead("all", 24, -1);
        s.due("asked to the first", 0, s.outcome(0, 1));
        s.due("asked to the last but one", 22, s.outcome(22, 1));
        s.due("asked to the last", 160, s.outcome(23, 1));
        s.due("the last number", ZERO, s.outcome(23, 163));
    }

    private static void usedFurther() {
        Sentence s = whatItIs("what later calls answer is free");
        s.numbers(1);
        NeededTrees x = s.uncounted();
        int ended = 0;
        for (int i = 0; i < 40; i++) {
            for (int k = 0; k < 159; k++) {
                x.put(NEXT);
            }
            x.put(i % 2 == 0 ? ZERO : -1);
            x.rule();
            x.put(-1);
            x.lead();
            x.covers();
            x.node(x.size() - 1, 5 + x.count(8));
            ended++;
        }
        s.due("but they end, and throw nothing", 40, ended);
    }

    private static void types12() {
        Sentence s = terms("TYPES are 0, 1, .., 12 at most");
        s.types(12);
        s.due("constructor of the last", 0, s.constructor(11, 1, 11));
        s.due("argument of the last", true, s.begin(1, 11));
        for (int none = 12; none < 16; none++) {
            s.due("no such type", NONE, s.constructor(none, 0, 0));
            s.due("no such type of an argument", NONE, s.constructor(0, 1, none));
            s.due("no such type of the function's", false, s.begin(1, none));
        }
        s.type();
        s.due("the thirteenth", NONE, s.constructor(12, 0, 0));
        s.dueRule("of the last type", 0, 0, -1);
    }

    private static void constructors60() {
        Sentence s = terms("CONSTRUCTORS 0, 1, .., 60 at most, each of a type");
        s.types(2);
        for (int c = 0; c < 60; c++) {
            s.constructor(c == 0 || c == 59 ? 1 : 0, 0, 0);
        }
        s.constructor(1, 0, 0);
        s.begin(1, 1);
        s.dueRule("the last", 0, 59);
        s.dueRule("behind the last", -2, 60);
        s.dueRule("one of the other type", -2, 58);
        s.due("one of the two of its type", false, s.covers());
        s.dueRule("the first", 1, 0);
        s.due("both of its type", true, s.covers());
        s.dueLead("the last", 1, 59);
        s.dueLead("behind the last", -2, 60);
        s.begin(1, 0);
        for (int c = 35; c < 59; c++) {
            s.dueRule("of the other type", c - 35, c);
        }
        s.due("children", 24, s.node(0, 2));
        s.due("the last child's constructor", 58, s.node(24, 3));
    }

    private static void arguments0To4() {
        Sentence s = terms("with 0 to 4 arguments of types");
        s.types(4);
        s.constructor(0, 0, 0);
        s.constructor(1, 0, 0);
        s.constructor(2, 0, 0);
        s.constructor(3, 4, 0x3210);
        s.begin(1, 3);
        s.dueRule("none and four", 0, 3, 0, 1, 2, -1);
        s.dueRule("the fourth is of type 3", -6, 3, 0, 1, 2, 2);
        s.dueRule("the third is of type 2", -5, 3, 0, 1, 1, -1);
        s.dueRule("there is no fifth", -7, 3, 0, 1, 2, -1, -1);
        s.dueRule("there is a fourth", -6, 3, 0, 1, 2);
        s.dueLead("a new name for each", 1, -1);
        s.dueOutcome(0, 0, 4, 4, 5, 3, 0, 1, 2, -1);
    }

    private static void functions0To6() {
        Sentence s = terms("THE FUNCTION has 0 to 6 arguments of types");
        s.types(6);
        for (int t = 0; t < 6; t++) {
            s.constructor(t, 0, 0);
        }
        s.begin(6, 0x543210);
        s.dueRule("six", 0, 0, 1, 2, 3, 4, 5);
        s.dueRule("the sixth is of type 5", -7, 0, 1, 2, 3, 4, 4);
        s.dueRule("there is a sixth", -7, 0, 1, 2, 3, 4);
        s.dueRule("there is no seventh", -8, 0, 1, 2, 3, 4, 5, 5);
        s.dueLead("six names", 1, -8, -7, -6, -5, -4, -3);
        s.dueOutcome(0, 0, 6, 6, 6, 0, 1, 2, 3, 4, 5);
        s.begin(0, 0x543210);
        s.dueRule("there is none", -2, 0);
        s.dueRule("none", 0);
        s.dueLead("none", 1);
        s.dueOutcome(0, 0, 0, 0, 0);
    }

    private static void rules24() {
        Sentence s = terms("and RULES 0, 1, .., 24 at most");
        s.numbers(2);
        for (int r = 0; r < 24; r++) {
            s.dueRule("rule", r, r % 2 == 0 ? ZERO : -1, -1);
        }
        s.dueRule("one more", NONE, -1, -1);
        s.dueCount(2, 24);
        s.due("an OR of 24", 24, s.node(0, 2));
        s.dueLead("to the 24", 24, -1, -1);
        s.due("the last", 23, s.outcome(23, 0));
        s.due("the last clashes", true, s.clash(23, 0));
        s.due("one more doesn't", false, s.clash(24, 0));
        s.begin(2, 0);
        s.dueRule("of another function", 0, -1, -1);
    }

    private static void aPatternForEachArgument() {
        Sentence s = terms("each a PATTERN for each argument");
        s.numbers(3);
        s.dueRule("none", -2);
        s.dueRule("two", -4, -1, -1);
        s.dueRule("three", 0, -1, -1, -1);
        s.dueRule("four", -5, -1, -1, -1, -1);
    }

    private static void aVariableOrAConstructorOfItsType() {
        Sentence s = terms("a VARIABLE, or a constructor of the type that is wanted there with a pattern for each of its arguments");
        s.lists();
        s.begin(1, 1);
        s.dueRule("a variable", 0, -1);
        s.dueRule("no other name", -2, -2);
        s.dueRule("of the type", 1, 3, ZERO, 3, NEXT, -1, 2);
        s.dueRule("of another type", -2, ZERO);
        s.dueRule("of another type in the first place", -3, 3, 2);
        s.dueRule("of another type in the second place", -4, 3, ZERO, ZERO);
        s.dueRule("of another type, deeper", -6, 3, ZERO, 3, NEXT, 2, 2);
        s.dueRule("without its second", -4, 3, ZERO);
        s.dueRule("that is not made yet", -2, 4);
        s.constructor(1, 0, 0);
        s.dueRule("that is made now", 2, 4);
    }

    private static void freeNames0To7() {
        Sentence s = terms("they have FREE NAMES 0 .. 7 in place of variables");
        s.numbers(4);
        s.rule(ZERO, -1, -1, -1);
        s.dueLead("all eight", 1, -1, -2, FOUR, -3, -4, -5, -6, FOUR, -7, -8, -1, -2);
        s.dueOutcome(0, 0, 1, 1, 12, ZERO, -1, FOUR, -2, -3, -4, -5, FOUR, -6, -7, ZERO, -1);
        s.dueLead("name 4", 1, -5, -5, -5, FOUR, -1, -2, -3, -8);
        s.dueOutcome(0, 0, 1, 1, 8, ZERO, ZERO, ZERO, FOUR, -1, -2, -3, -4);
        s.dueLead("name 8", -5, -1, -2, -3, -9);
        s.dueLead("the farthest", -2, Integer.MIN_VALUE, -1, -1, -1);
    }

    private static void freeNamesOfOneType() {
        Sentence s = terms("(each of one type, that of its first place)");
        s.lists();
        s.begin(3, 0x010);
        s.rule(-1, -1, -1);
        s.dueLead("twice of type 0", 1, -1, -2, -1);
        s.dueLead("of type 0, then of type 1", -3, -1, -1, -1);
        s.dueLead("of type 1, then of type 0", -4, -2, -1, -1);
        s.dueLead("both within another", -5, ZERO, 3, -8, -8, -8);
        s.dueLead("the first place is within another", -6, NEXT, -8, 3, ZERO, -8, ZERO);
        s.dueLead("what was refused leaves no type", 1, -2, -8, ZERO);
    }

    private static void row160() {
        Sentence s = terms("THE ROW has at most 160 numbers");
        s.numbers(1);
        s.rowOf(159, NEXT);
        s.due("the last", 160, s.put(ZERO));
        s.due("one more is not taken", NONE, s.put(ZERO));
        s.dueRule("all 160 are a rule's", 0);
        s.rowOf(159, NEXT);
        s.row(ZERO, NEXT);
        s.dueLead("all 160 are terms", 1);
        s.due("numbers", 160, s.outcome(0, 3));
        s.due("the last one", ZERO, s.outcome(0, 163));
    }

    private static void rowsNumbers() {
        Sentence s = terms("c a constructor, -1 a variable; in terms -1 - v the free name v");
        s.numbers(1);
        s.dueRule("the last constructor", 0, FOUR, -1, -1, -1, -1);
        s.dueRule("behind the last", -2, 3);
        s.dueRule("a variable", 1, -1);
        s.dueRule("a free name", -2, -2);
        s.dueRule("the smallest", -2, Integer.MIN_VALUE);
        s.dueRule("the largest", -2, Integer.MAX_VALUE);
        s.dueLead("behind the last", -2, 3);
        s.dueLead("name 0", 2, -1);
        s.dueLead("name 7", 2, -8);
        s.dueLead("name 8", -2, -9);
        s.dueLead("the smallest", -2, Integer.MIN_VALUE);
        s.dueLead("the largest", -2, Integer.MAX_VALUE);
    }

    private static void takenWhateverIsAnswered() {
        Sentence s = terms("What TAKES the row leaves it empty, whatever it answers");
        s.dueRule("no function", NONE, ZERO);
        s.dueCount(4, 0);
        s.dueLead("no function", NONE, ZERO);
        s.dueCount(4, 0);
        s.numbers(2);
        s.dueRule("wrong", -3, ZERO);
        s.dueCount(4, 0);
        s.dueLead("wrong", -4, ZERO, ZERO, ZERO);
        s.dueCount(4, 0);
        s.dueRule("done", 0, ZERO, -1);
        s.dueCount(4, 0);
        s.dueLead("no outcome", 0, NEXT, -1, -1);
        s.dueCount(4, 0);
        s.dueLead("done", 1, -1, -1);
        s.dueCount(4, 0);
        s.begin(2, 0);
        for (int r = 0; r < 24; r++) {
            s.rule(FOUR, -1, -1, -1, -1, -1);
        }
        s.dueRule("of 24", NONE, ZERO, ZERO);
        s.dueCount(4, 0);
        tooLong(s, 60, 75);
        s.dueLead("too long", -1000);
        s.dueCount(4, 0);
        s.due("the next is the first again", 1, s.put(ZERO));
    }

    /** Name 0, then NEXTs round 20 FOURS whose 61 parts are name 0 so often, else ZERO. */
    static void tooLong(Sentence s, int names, int nexts) {
        s.put(-1);
        s.rowOf(nexts, NEXT);
        int left = names;
        for (int four = 0; four < 20; four++) {
            s.put(FOUR);
            for (int part = 0; part < (four < 19 ? 3 : 4); part++) {
                s.put(left > 0 ? -1 : ZERO);
                left--;
            }
        }
    }

    private static void placeOfTheFirstWrong() {
        Sentence s = terms("when it isn't as wanted, it tells -2 - p, p being the place (0, 1, ..) of the first number that is no such one there");
        s.numbers(1);
        s.dueRule("the first place", -2, 9);
        s.dueRule("the second place", -3, NEXT, 9);
        s.dueRule("the first of two", -3, NEXT, -2, 9, 9);
        s.dueRule("the first of two, the second being the end", -4, FOUR, -1, -2);
        s.dueLead("the first of two", -3, NEXT, -9, 9);
        s.rowOf(159, NEXT);
        s.dueRule("the last place", -161, 9);
        s.rowOf(159, NEXT);
        s.dueLead("the last place", -161, -9);
    }

    private static void oneTooMany() {
        Sentence s = terms("(also one too many");
        s.begin(0, 0);
        s.dueRule("where none may be", -2, -1);
        s.dueLead("where none may be", -2, -1);
        s.anew();
        s.numbers(1);
        s.dueRule("behind a variable", -3, -1, -1);
        s.dueRule("behind a constructor", -3, ZERO, ZERO);
        s.dueRule("behind the parts of one", -7, FOUR, -1, -1, -1, -1, -1);
        s.dueRule("that is no number of a pattern at all", -3, ZERO, 99);
        s.dueLead("behind a name", -3, -1, -1);
        s.dueLead("two too many", -3, ZERO, ZERO, ZERO);
        s.rowOf(158, NEXT);
        s.dueRule("in the last place", -161, ZERO, ZERO);
        s.rowOf(158, NEXT);
        s.dueLead("in the last place", -161, ZERO, ZERO);
    }

    private static void theEnd() {
        Sentence s = terms("or the end, where one must come)");
        s.numbers(2);
        s.dueRule("of an empty row", -2);
        s.dueLead("of an empty row", -2);
        s.dueRule("behind the first", -3, -1);
        s.dueLead("behind the first", -3, -1);
        s.dueRule("where the last part must come", -7, -1, FOUR, -1, -1, -1);
        s.rowOf(160, NEXT);
        s.dueRule("of a full row", -162);
        s.rowOf(160, NEXT);
        s.dueLead("of a full row", -162);
    }

    private static void positionsFrom0() {
        Sentence s = terms("A POSITION is an argument, perhaps a place in what stands there, and so on, all from 0 on.");
        s.numbers(6);
        s.rule(-1, -1, -1, -1, -1, FOUR, -1, -1, -1, FOUR, NEXT, ZERO, -1, -1, -1);
        s.dueNode(0, 1, 1, 1, NONE, 0, 5);
        s.dueNode(1, 1, 2, 1, FOUR, 1, 5, 3);
        s.dueNode(2, 1, 3, 1, FOUR, 2, 5, 3, 0);
        s.dueNode(3, 1, 4, 1, NEXT, 3, 5, 3, 0, 0);
        s.dueNode(4, 0, 0, 0, ZERO, 4);
        s.begin(1, 0);
        s.rowOf(159, NEXT);
        s.rule(ZERO);
        s.due("the longest", 160, s.node(159, 1));
        s.due("its first place", 0, s.node(159, 5));
        s.due("its last place", 0, s.node(159, 164));
        s.due("no further place", NO_SUCH, s.node(159, 165));
    }
}
