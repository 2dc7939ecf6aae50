/** The boundary cases of the promises 1 to 13. */
final class CallBoundaries {
    private static final int NONE = Sentence.NONE;
    private static final int NO_SUCH = Sentence.NO_SUCH;
    private static final int LEAST = Integer.MIN_VALUE;
    private static final int MOST = Integer.MAX_VALUE;
    private static final int ZERO = 0;
    private static final int NEXT = 1;
    private static final int FOUR = 2;
    private static final int EMPTY = 2;
    private static final int PAIR = 3;

    private CallBoundaries() {
    }

    private static Sentence promise(int number, String words) {
        return new Sentence("Promise " + number, words);
    }

    static void test() {
        newObjects();
        types();
        constructors();
        functions();
        rows();
        rules();
        leads();
        outcomes();
        sizes();
        nodes();
        coverings();
        clashes();
        counts();
    }

    private static void newObjects() {
        Sentence s = promise(1, "No types, no function; the row is empty.");
        int[] counts = {0, 0, 0, NONE, 0, 0, 0, 0, 0};
        for (int what = 0; what < counts.length; what++) {
            s.dueCount(what, counts[what]);
        }
        s.due("no type", NONE, s.constructor(0, 0, 0));
        s.due("no type", false, s.begin(1, 0));
        s.due("no function", NONE, s.lead());
        s.due("no function", NONE, s.rule());
        s.due("the first number", 1, s.put(MOST));
        s.anew();
        s.dueCount(4, 0);
    }

    private static void types() {
        newTypes();
        typesFull();
    }

    private static void newTypes() {
        Sentence s = promise(2, "A new type: its number");
        s.due("the first", 0, s.type());
        s.due("no constructor of the second yet", NONE, s.constructor(1, 0, 0));
        s.due("the second", 1, s.type());
        s.due("a constructor of it", 0, s.constructor(1, 0, 0));
        s.dueCount(0, 2);
    }

    private static void typesFull() {
        Sentence s = promise(2, "NONE if there are 12.");
        for (int i = 0; i < 12; i++) {
            s.due("type()", i, s.type());
        }
        s.due("of 12", NONE, s.type());
        s.due("of 12 again", NONE, s.type());
        s.dueCount(0, 12);
        s.due("no thirteenth", NONE, s.constructor(12, 0, 0));
    }

    private static void constructors() {
        newConstructors();
        typesByFourBits();
        otherBits();
        noSuchType();
        noSuchTypeOfArguments();
        arityOf0To4();
        constructorsFull();
    }

    private static void newConstructors() {
        Sentence s = promise(3, "A new constructor of a type, with so many arguments");
        s.type();
        for (int arity = 0; arity <= 4; arity++) {
            s.due("its number", arity, s.constructor(0, arity, 0));
        }
        s.begin(1, 0);
        s.dueRule("none", 0, 0);
        s.dueRule("one", 1, 1, -1);
        s.dueRule("two", 2, 2, -1, -1);
        s.dueRule("three", 3, 3, -1, -1, -1);
        s.dueRule("four", 4, 4, -1, -1, -1, -1);
        s.dueRule("none", -3, 0, -1);
        s.dueRule("four", -6, 4, -1, -1, -1);
    }

    private static void typesByFourBits() {
        Sentence s = promise(3, "the types of these by four bits each, the first one lowest");
        s.types(12);
        for (int t = 0; t < 12; t++) {
            s.constructor(t, 0, 0);
        }
        s.due("done", 12, s.constructor(0, 4, 0x0A9B));
        s.begin(1, 0);
        s.dueRule("11, 9, 10, 0", 0, 12, 11, 9, 10, 0);
        s.dueRule("the other way round", -3, 12, 0, 10, 9, 11);
        s.dueRule("the second", -4, 12, 11, 10, 9, 0);
        s.dueRule("the last", -6, 12, 11, 9, 10, 8);
    }

    private static void otherBits() {
        Sentence s = promise(3, "(other bits count for nothing): its number.");
        s.type();
        s.due("of none", 0, s.constructor(0, 0, -1));
        s.due("of one", 1, s.constructor(0, 1, 0xFFFFFFF0));
        s.due("of four", 2, s.constructor(0, 4, 0xFFFF0000));
        s.due("the highest bit", 3, s.constructor(0, 1, LEAST));
        s.due("all but the highest bit", 4, s.constructor(0, 0, MOST));
        s.due("but these count", NONE, s.constructor(0, 4, 0xFFFF1000));
        s.begin(1, 0);
        s.dueRule("as if there were none", 0, 2, 0, 1, 0, 3, 4, -1);
    }

    private static void noSuchType() {
        Sentence s = promise(3, "NONE if there is no such type");
        s.due("none yet", NONE, s.constructor(0, 0, 0));
        s.types(2);
        s.due("behind the last", NONE, s.constructor(2, 0, 0));
        s.due("below 0", NONE, s.constructor(-1, 0, 0));
        s.due("16, whose four bits are 0", NONE, s.constructor(16, 0, 0));
        s.due("the least", NONE, s.constructor(LEAST, 0, 0));
        s.due("the most", NONE, s.constructor(MOST, 0, 0));
        s.dueCount(1, 0);
        s.due("the last", 0, s.constructor(1, 0, 0));
    }

    private static void noSuchTypeOfArguments() {
        Sentence s = promise(3, "(of those of arguments, too)");
        s.types(2);
        s.due("the first", NONE, s.constructor(0, 1, 2));
        s.due("the first of four", NONE, s.constructor(0, 4, 0x0002));
        s.due("the last of four", NONE, s.constructor(0, 4, 0x2000));
        s.due("the last of four, the largest", NONE, s.constructor(0, 4, 0xF111));
        s.dueCount(1, 0);
        s.due("the last type, four times", 0, s.constructor(0, 4, 0x1111));
    }

    private static void arityOf0To4() {
        Sentence s = promise(3, "arity is not 0 .. 4");
        s.type();
        s.due("below 0", NONE, s.constructor(0, -1, 0));
        s.due("five", NONE, s.constructor(0, 5, 0));
        s.due("the least", NONE, s.constructor(0, LEAST, 0));
        s.due("the most", NONE, s.constructor(0, MOST, 0));
        s.dueCount(1, 0);
        s.due("0", 0, s.constructor(0, 0, 0));
        s.due("four", 1, s.constructor(0, 4, 0));
    }

    private static void constructorsFull() {
        Sentence s = promise(3, "or there are 60.");
        s.type();
        for (int c = 0; c < 60; c++) {
            s.due("constructor", c, s.constructor(0, c % 5, 0));
        }
        s.due("of 60", NONE, s.constructor(0, 0, 0));
        s.due("of 60, of another type", NONE, s.constructor(s.type(), 0, 0));
        s.dueCount(1, 60);
        s.begin(1, 0);
        s.dueRule("there is none", -2, 60);
        s.dueRule("the last", 0, 59, -1, -1, -1, -1);
    }

    private static void functions() {
        newFunctions();
        refusedNumberOfArguments();
        refusedTypeOfArguments();
        allStays();
    }

    private static void newFunctions() {
        Sentence s = promise(4, "The function is a new one of n arguments, types as above, without rules: true.");
        s.lists();
        s.due("six, other bits", true, s.begin(6, 0xFF100000));
        s.dueRule("the last is of type 1", 0, ZERO, ZERO, ZERO, ZERO, ZERO, EMPTY);
        s.dueRule("the last is of type 1", -7, ZERO, ZERO, ZERO, ZERO, ZERO, ZERO);
        s.row(EMPTY);
        s.due("none, other bits", true, s.begin(0, -1));
        s.dueCount(3, 0);
        s.dueCount(2, 0);
        s.due("no tree", 0, s.size());
        s.due("no clash", false, s.clash(0, 0));
        s.dueCount(4, 1);
        s.due("the same again", true, s.begin(1, 1));
        s.due("the row is as it was", 0, s.rule());
        s.due("the same again", true, s.begin(1, 1));
        s.dueCount(2, 0);
        s.dueRule("its first rule", 0, -1);
        s.dueTree("of that alone", 0, 0);
    }

    private static void refusedNumberOfArguments() {
        Sentence s = promise(4, "False (all stays) if n is not 0 .. 6");
        s.type();
        s.due("below 0", false, s.begin(-1, 0));
        s.due("seven", false, s.begin(7, 0));
        s.due("the least", false, s.begin(LEAST, 0));
        s.due("the most", false, s.begin(MOST, 0));
        s.dueCount(3, NONE);
        s.dueRule("no function", NONE);
        s.due("0", true, s.begin(0, 0));
        s.dueCount(3, 0);
        s.due("six", true, s.begin(6, 0));
        s.dueCount(3, 6);
    }

    private static void refusedTypeOfArguments() {
        Sentence s = promise(4, "or there is no such type.");
        s.due("no types", false, s.begin(1, 0));
        s.due("no types, no arguments", true, s.begin(0, 0));
        s.types(2);
        s.due("the first of one", false, s.begin(1, 2));
        s.due("the first of six", false, s.begin(6, 0x000002));
        s.due("the last of six", false, s.begin(6, 0x200000));
        s.due("the last of six, the largest", false, s.begin(6, 0xF00000));
        s.dueCount(3, 0);
        s.due("one behind the last of six", true, s.begin(6, 0x2111111));
        s.dueCount(3, 6);
    }

    private static void allStays() {
        Sentence s = promise(4, "(all stays)");
        s.lists();
        s.begin(2, 0x10);
        s.rule(ZERO, -1);
        s.lead(-1, -2);
        s.row(7, 7, 7);
        s.begin(7, 0);
        s.begin(-1, 0);
        s.begin(1, 2);
        int[] counts = {2, 4, 1, 2, 3, 1, 0, 1, 1};
        for (int what = 0; what < counts.length; what++) {
            s.dueCount(what, counts[what]);
        }
        s.dueOutcome(0, 0, 1, 1, 2, ZERO, -1);
        s.dueNode(0, 1, 1, 1, NONE, 0, 0);
        s.dueNode(1, 0, 0, 0, ZERO, 1);
        s.due("the row, wrong at 0", -2, s.rule());
        s.dueRule("types of arguments", 1, -1, EMPTY);
    }

    private static void rows() {
        numbersBehindTheRow();
        rowFull();
    }

    private static void numbersBehindTheRow() {
        Sentence s = promise(5, "A number comes behind the row: how many it has.");
        s.numbers(1);
        int[] any = {ZERO, LEAST, MOST, -9, 60, 0, -1};
        for (int i = 0; i < any.length; i++) {
            s.due("put", i + 1, s.put(any[i]));
        }
        s.dueRule("the first is ahead", -3);
        s.due("put", 1, s.put(FOUR));
        s.row(ZERO, NEXT, ZERO, -1);
        s.due("put", 6, s.put(ZERO));
        s.dueLead("no rules", 0);
        s.rule(-1);
        s.dueLead("each in its place", 1, FOUR, ZERO, NEXT, ZERO, -1, ZERO);
        s.dueOutcome(0, 0, 0, 0, 6, FOUR, ZERO, NEXT, ZERO, -1, ZERO);
    }

    private static void rowFull() {
        Sentence s = promise(5, "NONE if there are 160.");
        s.numbers(1);
        for (int i = 1; i <= 159; i++) {
            s.due("put", i, s.put(NEXT));
        }
        s.due("the last", 160, s.put(-1));
        s.due("of 160", NONE, s.put(ZERO));
        s.due("of 160 again", NONE, s.put(ZERO));
        s.dueCount(4, 160);
        s.dueRule("as it was", 0);
        s.due("the first again", 1, s.put(ZERO));
    }

    private static void rules() {
        newRules();
        rulesWithoutFunction();
        rulesFull();
        wrongRules();
    }

    private static void newRules() {
        Sentence s = promise(6, "The row, taken, is a rule's patterns: its number.");
        s.begin(0, 0);
        s.dueRule("of no patterns", 0);
        s.dueRule("of no patterns", 1);
        s.anew();
        s.numbers(1);
        s.dueRule("the shortest", 0, -1);
        s.rowOf(159, NEXT);
        s.dueRule("the longest", 1, -1);
        s.dueCount(4, 0);
        s.dueRule("the same as another", 2, -1);
        s.due("its tree", 1 + 1 + 160 + 1, s.size());
    }

    private static void rulesWithoutFunction() {
        Sentence s = promise(6, "NONE if there is no function");
        s.dueRule("nothing in the row", NONE);
        s.dueRule("something in the row", NONE, -1);
        s.type();
        s.begin(1, 1);
        s.dueRule("a function was refused", NONE, -1);
        s.dueCount(2, 0);
        s.dueCount(4, 0);
        s.begin(1, 0);
        s.dueRule("a function", 0, -1);
    }

    private static void rulesFull() {
        Sentence s = promise(6, "or there are 24");
        s.numbers(1);
        for (int r = 0; r < 24; r++) {
            s.dueRule("rule", r, -1);
        }
        s.lead(ZERO);
        s.dueRule("of 24", NONE, -1);
        s.dueRule("of 24, a wrong one", NONE, 9);
        s.dueRule("of 24, the end", NONE);
        s.dueCount(2, 24);
        s.dueCount(5, 24);
        s.due("the tree", 25, s.size());
        s.begin(1, 0);
        s.dueRule("of another function", 0, -1);
    }

    private static void wrongRules() {
        Sentence s = promise(6, "else -2 - p.");
        s.lists();
        s.begin(2, 0x10);
        s.dueRule("the end", -2);
        s.dueRule("the end behind one", -3, ZERO);
        s.dueRule("the first", -2, EMPTY, EMPTY);
        s.dueRule("the second", -3, -1, ZERO);
        s.dueRule("within", -5, -1, PAIR, ZERO, NEXT);
        s.dueRule("one too many", -4, -1, -1, -1);
        s.dueCount(2, 0);
        s.due("no tree", 0, s.size());
        s.dueRule("the first number is not lost", 0, ZERO, EMPTY);
    }

    private static void leads() {
        noRuleHasTwo();
        leadsWithoutFunction();
        wrongLeads();
        tooLongToTell();
        noOutcomesInBothCases();
        noOutcomesBehindWhatWasDone();
        outcomesStayBehindWhatWasNotDone();
    }

    private static void noRuleHasTwo() {
        Sentence s = promise(7, "The row, taken, are terms for the arguments, which are led: how many outcomes (no rule has two).");
        s.numbers(2);
        for (int r = 0; r < 24; r++) {
            s.rule(r % 3 == 0 ? new int[] {FOUR, -1, -1, -1, -1, ZERO} : new int[] {r % 3 == 1 ? ZERO : -1, -1});
        }
        s.dueLead("one for each", 24, -1, -2);
        int seen = 0;
        for (int i = 0; i < 24; i++) {
            seen |= 1 << s.outcome(i, 0);
        }
        s.due("rules that have one", (1 << 24) - 1, seen);
        s.dueLead("of ZERO, or any", 8 + 8, ZERO, -1);
        s.dueLead("of any", 8, NEXT, ZERO, ZERO);
        s.begin(2, 0);
        s.rule(ZERO, -1);
        s.dueLead("none", 0, NEXT, ZERO, ZERO);
        s.dueCount(4, 0);
    }

    private static void leadsWithoutFunction() {
        Sentence s = promise(7, "NONE if there is no function");
        s.dueLead("nothing in the row", NONE);
        s.dueLead("something in the row", NONE, -1);
        s.type();
        s.begin(7, 0);
        s.dueLead("a function was refused", NONE, -1);
        s.dueCount(5, 0);
        s.begin(1, 0);
        s.dueLead("a function without rules", 0, -1);
    }

    private static void wrongLeads() {
        Sentence s = promise(7, "else -2 - p; else -1000");
        s.lists();
        s.begin(2, 0x10);
        s.dueLead("the end", -2);
        s.dueLead("the end, no rules", -3, ZERO);
        s.rule(-1, -1);
        s.dueLead("the end behind one", -3, ZERO);
        s.dueLead("one too many", -4, -1, -2, -3);
        s.dueLead("of another type", -3, -1, NEXT);
        s.dueLead("a name of another type", -3, -1, -1);
        s.dueLead("no name", -2, -9, -1);
        s.dueLead("right", 1, -8, -1);
        s.anew();
        s.numbers(2);
        s.rule(FOUR, -1, -1, -1, -1, -1);
        TermsBoundaries.tooLong(s, 60, 75);
        s.dueLead("one too many behind what is too long", -2 - 157, ZERO);
    }

    private static void tooLongToTell() {
        Sentence s = promise(7, "else -1000 if one of them would have terms of more than 400 numbers.");
        s.numbers(2);
        s.rule(ZERO, -1);
        s.rule(FOUR, -1, -1, -1, -1, -1);
        TermsBoundaries.tooLong(s, 59, 78);
        s.dueLead("400", 2);
        s.due("400", 400, s.outcome(1, 3));
        s.due("the last", ZERO, s.outcome(1, 403));
        s.due("no further", NO_SUCH, s.outcome(1, 404));
        TermsBoundaries.tooLong(s, 60, 75);
        s.dueLead("401, the other outcome being short", -1000);
        s.dueOutcomes("401");
        s.begin(2, 0);
        s.rule(FOUR, -1, -1, -1, -1, -1);
        s.rule(-1, -1);
        s.dueLead("short terms", 2, -1, -1);
        s.anew();
        s.numbers(2);
        s.rule(FOUR, -1, -1, -1, -1, FOUR, NEXT, -1, -1, -1, -1);
        TermsBoundaries.tooLong(s, 60, 75);
        s.dueLead("too long on a way without an outcome", 0);
        s.rule(-1, -1);
        TermsBoundaries.tooLong(s, 60, 75);
        s.dueLead("too long on a way without an outcome, beside one", 1);
        s.due("its numbers", 157, s.outcome(0, 3));
    }

    private static void noOutcomesInBothCases() {
        Sentence s = promise(7, "(In both cases");
        s.numbers(2);
        s.rule(FOUR, -1, -1, -1, -1, -1);
        s.dueLead("one", 1, -1, -1);
        s.dueLead("wrong", -3, -1);
        s.dueOutcomes("wrong");
        s.dueLead("one", 1, -1, -1);
        TermsBoundaries.tooLong(s, 60, 75);
        s.dueLead("too long", -1000);
        s.dueOutcomes("too long");
        s.dueLead("one again", 1, -1, -1);
    }

    private static void noOutcomesBehindWhatWasDone() {
        Sentence s = promise(7, "and behind a begin(), constructor() or rule() that was done, there are none then.)");
        s.numbers(1);
        s.rule(-1);
        s.dueLead("one", 1, ZERO);
        s.due("constructor()", 3, s.constructor(0, 0, 0));
        s.dueOutcomes("constructor()");
        s.dueLead("one", 1, ZERO);
        s.due("constructor() of another type", 4, s.constructor(s.type(), 0, 0));
        s.dueOutcomes("constructor() of another type");
        s.dueLead("one", 1, ZERO);
        s.dueRule("rule()", 1, ZERO);
        s.dueOutcomes("rule()");
        s.dueLead("two", 2, ZERO);
        s.due("begin()", true, s.begin(1, 0));
        s.dueOutcomes("begin()");
    }

    private static void outcomesStayBehindWhatWasNotDone() {
        Sentence s = promise(7, "that was done");
        s.numbers(1);
        for (int r = 0; r < 24; r++) {
            s.rule(-1);
        }
        s.dueLead("24", 24, ZERO);
        s.constructor(1, 0, 0);
        s.begin(7, 0);
        s.dueRule("of 24", NONE, -1);
        s.dueCount(5, 24);
        s.begin(1, 0);
        s.rule(-1);
        s.dueLead("one", 1, NEXT, -1);
        s.dueRule("wrong", -2, 9);
        s.dueRule("the end", -2);
        s.type();
        s.put(ZERO);
        s.size();
        s.covers();
        s.dueOutcome(0, 0, 0, 0, 2, NEXT, -1);
        for (int c = 3; c < 60; c++) {
            s.constructor(0, 0, 0);
        }
        s.begin(1, 0);
        s.dueRule("what was put", 0);
        s.dueLead("one", 1, ZERO);
        s.due("of 60", NONE, s.constructor(0, 0, 0));
        s.dueOutcomes("of 60", 0);
    }

    private static void outcomes() {
        outcomesRule();
        outcomesAsks();
        outcomesFreeAsks();
        outcomesLength();
        outcomesNumbers();
        outcomesNames();
        noSuchOutcome();
    }

    private static void outcomesRule() {
        Sentence s = promise(8, "Of the i-th outcome what 0: the rule");
        s.numbers(1);
        for (int r = 0; r < 24; r++) {
            s.rule(r < 22 ? ZERO : -1);
        }
        s.lead(NEXT, ZERO);
        s.dueOutcomes("the last two", 22, 23);
        s.lead(-1);
        s.due("the first of 24", 0, s.outcome(0, 0));
        s.due("the last of 24", 23, s.outcome(23, 0));
    }

    private static void outcomesAsks() {
        Sentence s = promise(8, "1: how often it was asked on the way");
        s.numbers(1);
        s.rule(-1);
        s.rowOf(159, NEXT);
        s.rule(ZERO);
        s.rule(NEXT, -1);
        s.lead(-1);
        s.due("never", 0, s.outcome(0, 1));
        s.due("most often", 160, s.outcome(1, 1));
        s.due("once", 1, s.outcome(2, 1));
        s.rowOf(159, NEXT);
        s.lead(ZERO);
        s.due("most often, no name", 160, s.outcome(1, 1));
    }

    private static void outcomesFreeAsks() {
        Sentence s = promise(8, "2: how many of these asked a free name");
        s.numbers(2);
        s.rule(NEXT, ZERO, NEXT, ZERO);
        s.lead(NEXT, ZERO, NEXT, ZERO);
        s.due("none", 0, s.outcome(0, 2));
        s.lead(NEXT, ZERO, NEXT, -1);
        s.due("the last", 1, s.outcome(0, 2));
        s.lead(-1, NEXT, ZERO);
        s.due("a name and the new one in it", 2, s.outcome(0, 2));
        s.lead(-1, -1);
        s.due("a name that was asked is free no more", 2, s.outcome(0, 2));
        s.lead(-1, -2);
        s.due("all", 4, s.outcome(0, 2));
    }

    private static void outcomesLength() {
        Sentence s = promise(8, "3: how many numbers its terms have");
        s.begin(0, 0);
        s.rule();
        s.lead();
        s.due("none", 0, s.outcome(0, 3));
        s.anew();
        s.numbers(2);
        s.rule(FOUR, -1, -1, -1, -1, -1);
        s.lead(-1, -1);
        s.due("a name twice", 10, s.outcome(0, 3));
        TermsBoundaries.tooLong(s, 59, 78);
        s.lead();
        s.due("the most", 400, s.outcome(0, 3));
    }

    private static void outcomesNumbers() {
        Sentence s = promise(8, "4 and above: these numbers");
        s.begin(0, 0);
        s.rule();
        s.lead();
        s.due("none", NO_SUCH, s.outcome(0, 4));
        s.anew();
        s.numbers(2);
        s.rule(FOUR, -1, -1, -1, -1, -1);
        TermsBoundaries.tooLong(s, 59, 78);
        s.lead();
        s.due("the first", FOUR, s.outcome(0, 4));
        s.due("the last of the first argument", -4, s.outcome(0, 8));
        s.due("the first of the second argument", NEXT, s.outcome(0, 9));
        s.due("the last but one", ZERO, s.outcome(0, 402));
        s.due("the last but two", -4, s.outcome(0, 401));
        s.due("the last", ZERO, s.outcome(0, 403));
        s.due("no further", NO_SUCH, s.outcome(0, 404));
    }

    private static void outcomesNames() {
        Sentence s = promise(8, "free names being -1, -2, .. by their first coming.");
        s.numbers(2);
        s.rule(-1, -1);
        s.rule(FOUR, -1, -1, -1, -1, -1);
        s.lead(FOUR, -8, -3, -8, -1, FOUR, -3, -2, -1, -8);
        s.dueOutcome(0, 0, 0, 0, 10, FOUR, -1, -2, -1, -3, FOUR, -2, -4, -3, -1);
        s.lead(-4, NEXT, -2);
        s.dueOutcome(0, 0, 0, 0, 3, -1, NEXT, -2);
        s.dueOutcome(1, 1, 1, 1, 7, FOUR, -1, -2, -3, -4, NEXT, -5);
        s.begin(1, 0);
        s.rowOf(39, FOUR);
        s.rowOf(39 * 3 + 1, -1);
        s.rule();
        s.lead(-5);
        s.due("the first of the most", -1, s.outcome(0, 4 + 39));
        s.due("the last of the most", -118, s.outcome(0, 4 + 156));
        s.due("no further", NO_SUCH, s.outcome(0, 4 + 157));
    }

    private static void noSuchOutcome() {
        Sentence s = promise(8, "NONE - 8 if there is none such (no outcome, no number there).");
        s.due("no function", NO_SUCH, s.outcome(0, 0));
        s.numbers(1);
        s.rule(-1);
        s.due("not led yet", NO_SUCH, s.outcome(0, 0));
        s.lead(NEXT, ZERO);
        s.due("behind the last outcome", NO_SUCH, s.outcome(1, 0));
        s.due("the outcome below 0", NO_SUCH, s.outcome(-1, 0));
        s.due("the least outcome", NO_SUCH, s.outcome(LEAST, 0));
        s.due("the most", NO_SUCH, s.outcome(MOST, 0));
        s.due("what below 0", NO_SUCH, s.outcome(0, -1));
        s.due("the least what", NO_SUCH, s.outcome(0, LEAST));
        s.due("the last number", ZERO, s.outcome(0, 5));
        s.due("behind the last number", NO_SUCH, s.outcome(0, 6));
        s.due("the most of what", NO_SUCH, s.outcome(0, MOST));
        s.due("neither", NO_SUCH, s.outcome(LEAST, MOST));
    }

    private static void sizes() {
        Sentence s = promise(9, "How many nodes the tree has");
        s.numbers(3);
        s.rule(-1, -1, -1);
        s.due("a LEAF", 1, s.size());
        s.rowOf(153, NEXT);
        s.rule(ZERO, ZERO, ZERO);
        s.rowOf(153, FOUR);
        s.due("a wrong rule changes nothing", -2 - 153, s.rule());
        s.due("the longest way", 1 + 1 + 156 + 1, s.size());
        s.constructor(0, 0, 0);
        s.due("a constructor changes nothing", 159, s.size());
        Sentence none = promise(9, "0 without one.");
        none.due("no function", 0, none.size());
        none.numbers(1);
        none.due("no rules", 0, none.size());
        none.rule(-1);
        none.begin(1, 0);
        none.due("another function", 0, none.size());
    }

    private static void nodes() {
        nodesInOrder();
        nodesKind();
        nodesRuleOrPlaces();
        nodesChildren();
        nodesConstructor();
        nodesDepth();
        nodesPlaces();
        noSuchNode();
    }

    private static void nodesInOrder() {
        Sentence s = promise(10, "Of the k-th node, the tree's first, each one ahead of its children in order");
        s.numbers(2);
        s.rule(NEXT, ZERO, -1);
        s.rule(ZERO, ZERO);
        s.rule(NEXT, NEXT, -1, -1);
        s.rule(-1, -1);
        s.dueTree("all", 2, 0, 1, 1, 1, 1, 0, 1, 1, 2, 0, 0, 0, 2, 0, 3);
    }

    private static void nodesKind() {
        Sentence s = promise(10, "what 0: 0 a LEAF, 1 a BRANCH, 2 an OR");
        s.numbers(1);
        s.rule(-1);
        s.due("a LEAF", 0, s.node(0, 0));
        s.rule(ZERO);
        s.due("an OR", 2, s.node(0, 0));
        s.due("a LEAF", 0, s.node(1, 0));
        s.due("a BRANCH", 1, s.node(2, 0));
    }

    private static void nodesRuleOrPlaces() {
        Sentence s = promise(10, "1: the rule of a LEAF, how many places the position of a BRANCH has (1 an argument), else 0");
        s.numbers(2);
        for (int r = 0; r < 23; r++) {
            s.rule(-1, -1);
        }
        s.rule(-1, NEXT, ZERO);
        s.due("of an OR", 0, s.node(0, 1));
        s.due("the first rule's LEAF", 0, s.node(2, 1));
        s.due("the last rule but one", 22, s.node(24, 1));
        s.due("an argument", 1, s.node(25, 1));
        s.due("a place in it", 2, s.node(26, 1));
        s.due("the last rule's LEAF", 23, s.node(27, 1));
        s.begin(2, 0);
        s.rowOf(158, NEXT);
        s.rule(ZERO, -1);
        s.due("the most places", 159, s.node(158, 1));
    }

    private static void nodesChildren() {
        Sentence s = promise(10, "2: how many children");
        s.numbers(1);
        s.rule(-1);
        s.due("of a LEAF", 0, s.node(0, 2));
        for (int r = 1; r < 23; r++) {
            s.rule(-1);
        }
        s.due("of an OR", 23, s.node(0, 2));
        s.rule(ZERO);
        s.due("of an OR above it", 2, s.node(0, 2));
        s.due("of the OR", 23, s.node(1, 2));
        s.due("of a BRANCH of one", 1, s.node(25, 2));
        s.begin(1, 0);
        s.rule(ZERO);
        s.rule(FOUR, -1, -1, -1, -1);
        s.rule(NEXT, -1);
        s.rule(NEXT, -1);
        s.due("of a BRANCH of all", 3, s.node(0, 2));
        s.due("of an OR of LEAVES ahead of another node", 2, s.node(2, 2));
        s.begin(2, 0);
        s.rule(ZERO, ZERO);
        s.rule(ZERO, -1);
        s.rule(NEXT, -1, -1);
        s.due("of an OR of TREES ahead of another node", 2, s.node(1, 2));
    }

    private static void nodesConstructor() {
        Sentence s = promise(10, "3: the constructor for which it is a child of a BRANCH, else NONE");
        s.numbers(2);
        s.rule(ZERO, -1);
        s.due("the first node", NONE, s.node(0, 3));
        s.due("constructor 0", 0, s.node(1, 3));
        s.rule(FOUR, -1, -1, -1, -1, -1);
        s.rule(FOUR, -1, -1, -1, -1, ZERO);
        s.due("the last constructor", FOUR, s.node(2, 3));
        s.due("a child of an OR", NONE, s.node(3, 3));
        s.due("a BRANCH that is a child of an OR", NONE, s.node(4, 3));
        s.due("its child", 0, s.node(5, 3));
        s.begin(1, 0);
        s.rule(-1);
        s.rule(-1);
        s.due("an OR that is the first node", NONE, s.node(0, 3));
    }

    private static void nodesDepth() {
        Sentence s = promise(10, "4: how deep it is (the first 0)");
        s.numbers(2);
        s.rule(-1, -1);
        s.due("the first", 0, s.node(0, 4));
        s.rowOf(158, NEXT);
        s.rule(ZERO, ZERO);
        s.due("an OR", 0, s.node(0, 4));
        s.due("its first child", 1, s.node(1, 4));
        s.due("its last child", 1, s.node(2, 4));
        s.due("the deepest", 161, s.node(162, 4));
        s.due("behind it", NO_SUCH, s.node(163, 4));
    }

    private static void nodesPlaces() {
        Sentence s = promise(10, "5 and above: the position's places, an argument first.");
        s.numbers(6);
        s.rule(-1, -1, -1, -1, -1, FOUR, -1, NEXT, ZERO, -1, FOUR, -1, -1, -1, ZERO);
        s.dueNode(0, 1, 1, 1, NONE, 0, 5);
        s.dueNode(1, 1, 2, 1, FOUR, 1, 5, 1);
        s.dueNode(2, 1, 3, 1, NEXT, 2, 5, 1, 0);
        s.dueNode(3, 1, 2, 1, ZERO, 3, 5, 3);
        s.dueNode(4, 1, 3, 1, FOUR, 4, 5, 3, 3);
        s.dueNode(5, 0, 0, 0, ZERO, 5);
        s.rule(-1, -1, -1, -1, -1, -1);
        s.dueNode(0, 2, 0, 2, NONE, 0);
    }

    private static void noSuchNode() {
        Sentence s = promise(10, "NONE - 8 if there is none such.");
        s.due("no function", NO_SUCH, s.node(0, 0));
        s.numbers(2);
        s.due("no rules", NO_SUCH, s.node(0, 0));
        s.rule(-1, ZERO);
        s.due("behind the last node", NO_SUCH, s.node(2, 0));
        s.due("the node below 0", NO_SUCH, s.node(-1, 0));
        s.due("the least node", NO_SUCH, s.node(LEAST, 0));
        s.due("the most", NO_SUCH, s.node(MOST, 0));
        s.due("what below 0", NO_SUCH, s.node(0, -1));
        s.due("the least what", NO_SUCH, s.node(0, LEAST));
        s.due("a BRANCH's last place", 1, s.node(0, 5));
        s.due("behind it", NO_SUCH, s.node(0, 6));
        s.due("the most of what", NO_SUCH, s.node(0, MOST));
        s.due("a LEAF's depth", 1, s.node(1, 4));
        s.due("a LEAF has no place", NO_SUCH, s.node(1, 5));
        s.rule(-1, -1);
        s.due("an OR has no place", NO_SUCH, s.node(0, 5));
        s.due("neither", NO_SUCH, s.node(MOST, LEAST));
        s.begin(2, 0);
        s.due("no rules", NO_SUCH, s.node(0, 0));
    }

    private static void coverings() {
        Sentence s = promise(11, "Whether the tree covers");
        s.lists();
        s.begin(2, 0x10);
        s.rule(ZERO, -1);
        s.rule(NEXT, -1, EMPTY);
        s.due("all but one", false, s.covers());
        s.rule(NEXT, -1, PAIR, -1, -1);
        s.due("all", true, s.covers());
        s.constructor(0, 0, 0);
        s.due("all but a new one", false, s.covers());
        s.rule(-1, -1);
        s.due("any", true, s.covers());
        Sentence none = promise(11, "false without one.");
        none.due("no function", false, none.covers());
        none.begin(0, 0);
        none.due("no rules, no arguments", false, none.covers());
        none.rule();
        none.due("a rule", true, none.covers());
        none.begin(0, 0);
        none.due("another function", false, none.covers());
        none.type();
        none.begin(1, 0);
        none.due("no rules, no constructors", false, none.covers());
    }

    private static void clashes() {
        commonTerms();
        oneAndItself();
        byPatternsAlone();
        noSuchTwo();
    }

    private static void commonTerms() {
        Sentence s = promise(12, "have terms in common, which both would match");
        s.lists();
        s.begin(2, 0x10);
        s.rule(-1, -1);
        s.rule(NEXT, -1, PAIR, ZERO, -1);
        s.rule(NEXT, ZERO, PAIR, -1, EMPTY);
        s.rule(NEXT, ZERO, PAIR, ZERO, PAIR, -1, -1);
        s.due("variables and any", true, s.clash(0, 1));
        s.due("any and variables", true, s.clash(3, 0));
        s.due("each has what the other leaves", true, s.clash(1, 2));
        s.due("the other way round", true, s.clash(2, 1));
        s.due("only the last differs", false, s.clash(2, 3));
        s.due("the other way round", false, s.clash(3, 2));
        s.due("behind a variable", true, s.clash(1, 3));
        s.begin(0, 0);
        s.rule();
        s.rule();
        s.due("no arguments", true, s.clash(0, 1));
        s.anew();
        s.numbers(1);
        s.rowOf(159, NEXT);
        s.rule(ZERO);
        s.rowOf(159, NEXT);
        s.rule(-1);
        s.rowOf(158, NEXT);
        s.rule(ZERO);
        s.due("the longest", true, s.clash(0, 1));
        s.due("the longest differ at their end", false, s.clash(0, 2));
    }

    private static void oneAndItself() {
        Sentence s = promise(12, "Whether two rules (or one and itself)");
        s.numbers(1);
        for (int r = 0; r < 24; r++) {
            s.rule(r % 2 == 0 ? ZERO : -1);
        }
        for (int r = 0; r < 24; r++) {
            s.due("one and itself", true, s.clash(r, r));
        }
        s.due("the first and the last", true, s.clash(0, 23));
    }

    private static void byPatternsAlone() {
        Sentence s = promise(12, "by their patterns alone");
        s.numbers(1);
        s.rule(-1);
        s.rule(ZERO);
        s.due("though an earlier rule has all", true, s.clash(0, 1));
        s.type();
        s.begin(1, 1);
        s.rule(-1);
        s.rule(-1);
        s.due("though the type has no constructor", true, s.clash(0, 1));
        s.due("though the type has no constructor", true, s.clash(1, 1));
    }

    private static void noSuchTwo() {
        Sentence s = promise(12, "false if there are no such two.");
        s.due("no function", false, s.clash(0, 0));
        s.numbers(1);
        s.due("no rules", false, s.clash(0, 0));
        s.rule(-1);
        s.due("one", true, s.clash(0, 0));
        s.due("no second", false, s.clash(0, 1));
        s.due("no second", false, s.clash(1, 0));
        s.due("no second", false, s.clash(1, 1));
        s.due("below 0", false, s.clash(-1, 0));
        s.due("below 0", false, s.clash(0, -1));
        s.due("below 0", false, s.clash(-1, -1));
        s.due("far off", false, s.clash(LEAST, MOST));
        s.due("far off", false, s.clash(MOST, MOST));
        s.due("far off", false, s.clash(0, LEAST));
        s.begin(1, 0);
        s.due("another function", false, s.clash(0, 0));
    }

    private static void counts() {
        fullCounts();
        treeCounts();
        argumentsWithoutFunction();
        depthWithoutTree();
        noSuchCount();
    }

    private static void fullCounts() {
        Sentence s = promise(13, "What 0: types, 1 constructors, 2 rules, 3 arguments of the function");
        s.types(12);
        for (int c = 0; c < 60; c++) {
            s.constructor(0, 0, 0);
        }
        s.begin(6, 0);
        for (int r = 0; r < 24; r++) {
            s.rule(-1, -1, -1, -1, -1, -1);
        }
        s.lead(-1, -1, -1, -1, -1, -1);
        s.rowOf(160, 0);
        int[] counts = {12, 60, 24, 6, 160, 24, 1, 0, 1};
        for (int what = 0; what < counts.length; what++) {
            s.dueCount(what, counts[what]);
        }
        s.type();
        s.constructor(0, 0, 0);
        s.begin(7, 0);
        s.put(0);
        for (int what = 0; what < 6; what++) {
            s.dueCount(what, counts[what]);
        }
    }

    private static void treeCounts() {
        Sentence s = promise(13, "4 numbers of the row, 5 outcomes, 6 ORS of the tree, 7 its BRANCHES, 8 how deep its deepest node is");
        s.numbers(2);
        s.rule(-1, -1);
        int[] leaf = {1, 3, 1, 2, 0, 0, 0, 0, 0};
        for (int what = 0; what < leaf.length; what++) {
            s.dueCount(what, leaf[what]);
        }
        s.rule(ZERO, -1);
        s.rule(-1, NEXT, NEXT, ZERO);
        s.rule(-1, -1);
        s.lead(-1, -2);
        s.row(5, 5);
        int[] more = {1, 3, 4, 2, 2, 4, 2, 4, 5};
        for (int what = 0; what < more.length; what++) {
            s.dueCount(what, more[what]);
        }
    }

    private static void argumentsWithoutFunction() {
        Sentence s = promise(13, "(NONE without one)");
        s.dueCount(3, NONE);
        s.type();
        s.begin(1, 5);
        s.dueCount(3, NONE);
        s.begin(0, 0);
        s.dueCount(3, 0);
    }

    private static void depthWithoutTree() {
        Sentence s = promise(13, "(0 without one)");
        s.dueCount(8, 0);
        s.numbers(1);
        s.dueCount(8, 0);
        s.rule(ZERO);
        s.dueCount(8, 1);
        s.begin(1, 0);
        s.dueCount(8, 0);
        s.dueCount(6, 0);
        s.dueCount(7, 0);
    }

    private static void noSuchCount() {
        Sentence s = promise(13, "NONE - 8 for another what.");
        s.dueCount(9, NO_SUCH);
        s.dueCount(-1, NO_SUCH);
        s.dueCount(LEAST, NO_SUCH);
        s.dueCount(MOST, NO_SUCH);
    }
}
