/** The boundary cases of what "Terms" says of the tree, of what it covers and how terms are led. */
final class TreeBoundaries {
    private static final int NONE = Sentence.NONE;
    private static final int ZERO = 0;
    private static final int NEXT = 1;
    private static final int FOUR = 2;
    private static final int LEAF = 0;
    private static final int BRANCH = 1;
    private static final int OR = 2;

    private TreeBoundaries() {
    }

    private static Sentence terms(String words) {
        return new Sentence("Terms", words);
    }

    static void test() {
        atFirstTheArguments();
        needsWhatIsNoVariable();
        noneNeeds();
        neededByAll();
        childrenInTheOrderMade();
        placeTakenByArguments();
        neededBySome();
        longestRows();
        openRowStays();
        withoutRules();
        leafCovers();
        orCovers();
        branchCovers();
        leafIsOne();
        orOneBehindTheOther();
        asksAtItsPosition();
        asksAConstructor();
        asksAFreeName();
        nameWhereverItStands();
        termsAsTheyAreThen();
    }

    private static void atFirstTheArguments() {
        Sentence s = terms("THE TREE for rules (in their order) and a row of OPEN positions, at first all rules, and the arguments.");
        s.begin(0, 0);
        s.rule();
        s.dueTree("no arguments", LEAF, 0);
        s.rule();
        s.rule();
        s.dueTree("no arguments, three rules", OR, 0, LEAF, 0, LEAF, 1, LEAF, 2);
        s.anew();
        s.numbers(6);
        s.rule(-1, -1, -1, -1, -1, ZERO);
        s.dueTree("six arguments", BRANCH, 1, LEAF, 0);
        s.due("the last is open", 5, s.node(0, 5));
        s.begin(6, 0);
        s.rule(ZERO, -1, -1, -1, -1, ZERO);
        s.due("the first is ahead of it", 0, s.node(0, 5));
    }

    private static void needsWhatIsNoVariable() {
        Sentence s = terms("A rule NEEDS an open position, if its pattern there is no variable.");
        s.numbers(1);
        s.rule(-1);
        s.dueTree("a variable", LEAF, 0);
        s.begin(1, 0);
        s.rule(ZERO);
        s.dueTree("a constructor without arguments", BRANCH, 1, LEAF, 0);
        s.begin(1, 0);
        s.rule(FOUR, -1, -1, -1, -1);
        s.dueTree("a constructor with variables alone", BRANCH, 1, LEAF, 0);
    }

    private static void noneNeeds() {
        Sentence s = terms("One rule that needs none, or several none of which does: LEAF of the one; OR of the LEAVES of each.");
        s.numbers(2);
        s.rule(-1, -1);
        s.dueNode(0, LEAF, 0, 0, NONE, 0);
        s.rule(-1, -1);
        s.dueNode(0, OR, 0, 2, NONE, 0);
        s.dueNode(1, LEAF, 0, 0, NONE, 1);
        s.dueNode(2, LEAF, 1, 0, NONE, 1);
        for (int r = 2; r < 24; r++) {
            s.rule(-1, -1);
        }
        s.due("24: nodes", 25, s.size());
        s.dueNode(0, OR, 0, 24, NONE, 0);
        s.dueNode(24, LEAF, 23, 0, NONE, 1);
    }

    private static void neededByAll() {
        Sentence s = terms("Otherwise: if all rules need some open position, the first such one is taken: a BRANCH there");
        s.numbers(3);
        s.rule(-1, NEXT, ZERO, ZERO);
        s.dueTree("one rule", BRANCH, 1, BRANCH, 2, BRANCH, 1, LEAF, 0);
        s.due("the first that it needs", 1, s.node(0, 5));
        s.begin(3, 0);
        s.rule(ZERO, -1, ZERO);
        s.rule(-1, ZERO, NEXT, -1);
        s.dueTree("only the last by all", BRANCH, 1, BRANCH, 1, LEAF, 0, BRANCH, 1, LEAF, 1);
        s.due("not the first that some need", 2, s.node(0, 5));
        s.begin(3, 0);
        s.rule(-1, ZERO, ZERO);
        s.rule(ZERO, ZERO, ZERO);
        s.dueNode(0, BRANCH, 1, 1, NONE, 0, 1);
        s.dueNode(1, BRANCH, 1, 1, ZERO, 1, 2);
        s.dueNode(2, OR, 0, 2, ZERO, 2);
        s.dueNode(3, LEAF, 0, 0, NONE, 3);
        s.dueNode(4, BRANCH, 1, 1, NONE, 3, 0);
        s.dueNode(5, LEAF, 1, 0, ZERO, 4);
    }

    private static void childrenInTheOrderMade() {
        Sentence s = terms("for each constructor of its type, in the order in which they were made, that some rules have there: a child");
        s.numbers(1);
        s.rule(FOUR, -1, -1, -1, -1);
        s.rule(ZERO);
        s.rule(FOUR, -1, -1, -1, -1);
        s.dueNode(0, BRANCH, 1, 2, NONE, 0, 0);
        s.dueNode(1, LEAF, 1, 0, ZERO, 1);
        s.dueNode(2, OR, 0, 2, FOUR, 1);
        s.dueNode(3, LEAF, 0, 0, NONE, 2);
        s.dueNode(4, LEAF, 2, 0, NONE, 2);
        s.anew();
        s.lists();
        s.constructor(0, 0, 0);
        s.begin(1, 0);
        s.rule(4);
        s.rule(NEXT, -1);
        s.dueNode(0, BRANCH, 1, 2, NONE, 0, 0);
        s.dueNode(1, LEAF, 1, 0, NEXT, 1);
        s.dueNode(2, LEAF, 0, 0, 4, 1);
        s.anew();
        s.type();
        for (int c = 0; c < 60; c++) {
            s.constructor(0, 0, 0);
        }
        s.begin(1, 0);
        for (int r = 0; r < 24; r++) {
            s.rule(59 - r);
        }
        s.due("24 children", 24, s.node(0, 2));
        s.due("the first is of the last rule", 23, s.node(1, 1));
        s.due("its constructor", 36, s.node(1, 3));
        s.due("the last is of the first rule", 0, s.node(24, 1));
        s.due("its constructor", 59, s.node(24, 3));
    }

    private static void placeTakenByArguments() {
        Sentence s = terms("the TREE for these, the position's place in the row being taken by those of its arguments");
        s.numbers(2);
        s.rule(ZERO, ZERO);
        s.dueTree("no arguments", BRANCH, 1, BRANCH, 1, LEAF, 0);
        s.due("the next position is what came behind it", 1, s.node(1, 5));
        s.begin(2, 0);
        s.rule(FOUR, -1, -1, -1, ZERO, ZERO);
        s.dueNode(0, BRANCH, 1, 1, NONE, 0, 0);
        s.dueNode(1, BRANCH, 2, 1, FOUR, 1, 0, 3);
        s.dueNode(2, BRANCH, 1, 1, ZERO, 2, 1);
        s.begin(2, 0);
        s.rule(-1, FOUR, -1, NEXT, ZERO, -1, ZERO);
        s.rule(ZERO, FOUR, -1, NEXT, ZERO, -1, ZERO);
        s.dueNode(0, BRANCH, 1, 1, NONE, 0, 1);
        s.dueNode(1, BRANCH, 2, 1, FOUR, 1, 1, 1);
        s.dueNode(2, BRANCH, 3, 1, NEXT, 2, 1, 1, 0);
        s.dueNode(3, BRANCH, 2, 1, ZERO, 3, 1, 3);
        s.dueNode(4, OR, 0, 2, ZERO, 4);
    }

    private static void neededBySome() {
        Sentence s = terms("If no position is needed by all: the first one that some need is taken");
        s.numbers(3);
        s.rule(-1, -1, ZERO);
        s.rule(-1, ZERO, -1);
        s.rule(-1, ZERO, ZERO);
        s.dueNode(0, OR, 0, 2, NONE, 0);
        s.dueNode(1, BRANCH, 1, 1, NONE, 1, 2);
        s.dueNode(2, LEAF, 0, 0, ZERO, 2);
        s.dueNode(3, BRANCH, 1, 1, NONE, 1, 1);
        s.dueNode(4, OR, 0, 2, ZERO, 2);
        s.dueNode(5, LEAF, 1, 0, NONE, 3);
        s.dueNode(6, BRANCH, 1, 1, NONE, 3, 2);
        s.dueNode(7, LEAF, 2, 0, ZERO, 4);
        s.due("nodes", 8, s.size());
    }

    private static void longestRows() {
        Sentence s = terms("an OR of TREES for longest rows of rules that follow one another, all of which need it, or none");
        s.numbers(1);
        s.rule(ZERO);
        s.rule(ZERO);
        s.rule(-1);
        s.rule(-1);
        s.rule(NEXT, -1);
        s.rule(-1);
        s.dueTree("two, two, one and one", OR, 0, BRANCH, 1, OR, 0, LEAF, 0, LEAF, 1, OR, 0, LEAF, 2, LEAF, 3,
                BRANCH, 1, LEAF, 4, LEAF, 5);
        s.due("children", 4, s.node(0, 2));
        s.anew();
        s.numbers(2);
        s.rule(ZERO, ZERO);
        s.rule(NEXT, -1, -1);
        s.rule(ZERO, ZERO);
        s.rule(ZERO, -1);
        s.dueTree("0 and 2 follow one another, where 1 is not", BRANCH, 1, OR, 0, BRANCH, 1, OR, 0, LEAF, 0, LEAF, 2,
                LEAF, 3, LEAF, 1);
        s.begin(2, 0);
        for (int r = 0; r < 24; r++) {
            s.rule(r < 23 ? -1 : ZERO, -1);
        }
        s.due("23 and one", 2, s.node(0, 2));
        s.due("23", 23, s.node(1, 2));
        s.due("nodes", 1 + 24 + 2, s.size());
    }

    private static void openRowStays() {
        Sentence s = terms("(the open row stays as it is)");
        s.numbers(2);
        s.rule(ZERO, -1);
        s.rule(-1, -1);
        s.rule(-1, ZERO);
        s.dueNode(0, OR, 0, 2, NONE, 0);
        s.dueNode(1, BRANCH, 1, 1, NONE, 1, 0);
        s.dueNode(2, LEAF, 0, 0, ZERO, 2);
        s.dueNode(3, OR, 0, 2, NONE, 1);
        s.dueNode(4, LEAF, 1, 0, NONE, 2);
        s.dueNode(5, BRANCH, 1, 1, NONE, 2, 1);
        s.dueNode(6, LEAF, 2, 0, ZERO, 3);
    }

    private static void withoutRules() {
        Sentence s = terms("Without rules there is no tree.");
        s.due("no function", 0, s.size());
        s.numbers(1);
        s.due("no rules", 0, s.size());
        s.dueLead("no rules", 0, -1);
        s.rule(9);
        s.due("a wrong rule", 0, s.size());
        s.rule(ZERO);
        s.due("a rule", 2, s.size());
        s.begin(1, 0);
        s.due("another function", 0, s.size());
        s.due("its first node", Sentence.NO_SUCH, s.node(0, 0));
        s.dueLead("another function", 0, ZERO);
    }

    private static void leafCovers() {
        Sentence s = terms("It COVERS, if: a LEAF");
        s.numbers(1);
        s.rule(-1);
        s.due("a variable", true, s.covers());
        s.begin(0, 0);
        s.rule();
        s.due("no arguments", true, s.covers());
        s.type();
        s.begin(1, 1);
        s.rule(-1);
        s.due("of a type without constructors", true, s.covers());
    }

    private static void orCovers() {
        Sentence s = terms("an OR one of whose children does");
        s.numbers(1);
        s.rule(ZERO);
        s.rule(-1);
        s.due("the last", true, s.covers());
        s.rule(NEXT, -1);
        s.due("the one between", true, s.covers());
        s.begin(1, 0);
        s.rule(-1);
        s.rule(ZERO);
        s.due("the first", true, s.covers());
        s.rule(-1);
        s.due("two of three", true, s.covers());
        s.begin(2, 0);
        s.rule(ZERO, -1);
        s.rule(-1, ZERO);
        s.rule(NEXT, -1, -1);
        s.rule(-1, ZERO);
        s.rule(FOUR, -1, -1, -1, -1, -1);
        s.due("none, though what these have is all", false, s.covers());
    }

    private static void branchCovers() {
        Sentence s = terms("a BRANCH which has a child for each constructor of its type, all of which do.");
        s.lists();
        s.begin(1, 1);
        s.rule(2);
        s.due("one of two", false, s.covers());
        s.rule(3, ZERO, -1);
        s.due("two, one of which doesn't", false, s.covers());
        s.rule(3, NEXT, -1, -1);
        s.due("both", true, s.covers());
        s.type();
        s.constructor(2, 0, 0);
        s.due("a new one of another type", true, s.covers());
        s.constructor(0, 0, 0);
        s.due("a new one of the inner type", false, s.covers());
        s.rule(3, 5, -1);
        s.due("that too", true, s.covers());
        s.constructor(1, 0, 0);
        s.due("a new one of the outer type", false, s.covers());
        s.rule(6);
        s.due("all", true, s.covers());
        s.anew();
        s.type();
        for (int c = 0; c < 24; c++) {
            s.constructor(0, 0, 0);
        }
        s.begin(1, 0);
        for (int c = 0; c < 24; c++) {
            s.due("up to " + c, false, s.covers());
            s.rule(c);
        }
        s.due("24 of 24", true, s.covers());
        s.constructor(0, 0, 0);
        s.due("24 of 25", false, s.covers());
    }

    private static void leafIsOne() {
        Sentence s = terms("LED along the tree, terms come to OUTCOMES, in order: a LEAF is one, of its rule.");
        s.numbers(1);
        s.rule(-1);
        s.dueLead("a term", 1, NEXT, ZERO);
        s.dueOutcome(0, 0, 0, 0, 2, NEXT, ZERO);
        s.dueLead("a free name", 1, -8);
        s.dueOutcome(0, 0, 0, 0, 1, -1);
        s.begin(1, 0);
        s.rule(ZERO);
        s.rule(NEXT, -1);
        s.dueLead("another rule", 1, NEXT, ZERO);
        s.dueOutcomes("another rule", 1);
    }

    private static void orOneBehindTheOther() {
        Sentence s = terms("An OR: those of its children, one behind the other.");
        s.numbers(1);
        s.rule(ZERO);
        s.rule(-1);
        s.rule(ZERO);
        s.dueLead("all three", 3, ZERO);
        s.dueOutcomes("all three", 0, 1, 2);
        s.dueLead("one", 1, NEXT, ZERO);
        s.dueOutcomes("one", 1);
        s.dueLead("the same name for each child", 3, -1);
        s.dueOutcome(0, 0, 1, 1, 1, ZERO);
        s.dueOutcome(1, 1, 0, 0, 1, -1);
        s.dueOutcome(2, 2, 1, 1, 1, ZERO);
    }

    private static void asksAtItsPosition() {
        Sentence s = terms("A BRANCH ASKS what stands at its position");
        s.numbers(6);
        s.rule(-1, -1, -1, -1, -1, FOUR, -1, -1, -1, NEXT, ZERO);
        s.dueLead("all as it is", 1, -1, -1, -1, -1, -1, FOUR, -1, -1, -1, NEXT, ZERO);
        s.due("asked", 3, s.outcome(0, 1));
        s.due("no name", 0, s.outcome(0, 2));
        s.dueLead("another one at the position", 0, -1, -1, -1, -1, -1, FOUR, -1, -1, -1, NEXT, NEXT, ZERO);
        s.dueLead("another one beside it", 0, -1, -1, -1, -1, -1, FOUR, NEXT, ZERO, -1, -1, ZERO);
        s.dueLead("behind others that are long", 1, FOUR, ZERO, ZERO, NEXT, ZERO, ZERO, -1, -1, -1, -1, FOUR,
                NEXT, FOUR, ZERO, ZERO, ZERO, ZERO, ZERO, -1, NEXT, -2);
        s.due("the last was a name", 1, s.outcome(0, 2));
        s.dueLead("in what a name has become", 1, -1, -1, -1, -1, -1, -2);
        s.due("asked", 3, s.outcome(0, 1));
        s.due("names", 3, s.outcome(0, 2));
    }

    private static void asksAConstructor() {
        Sentence s = terms("a constructor: those of its child for it (none without it)");
        s.numbers(2);
        s.rule(ZERO, -1);
        s.rule(FOUR, -1, -1, -1, -1, -1);
        s.rule(FOUR, -1, -1, -1, -1, ZERO);
        s.dueLead("the first child", 1, ZERO, ZERO);
        s.dueOutcomes("the first child", 0);
        s.dueLead("the last child", 2, FOUR, -1, -1, -1, -1, ZERO);
        s.dueOutcomes("the last child", 1, 2);
        s.dueLead("no child", 0, NEXT, -1, ZERO);
        s.dueOutcomes("no child");
        s.constructor(0, 0, 0);
        s.dueLead("no child for a new one", 0, 3, ZERO);
    }

    private static void asksAFreeName() {
        Sentence s = terms("a free name: those of all its children, in order");
        s.numbers(2);
        s.rule(FOUR, -1, -1, -1, -1, -1);
        s.rule(ZERO, -1);
        s.rule(FOUR, -1, -1, -1, -1, -1);
        s.dueLead("two children, the last of two rules", 3, -1, -2);
        s.dueOutcomes("two children, the last of two rules", 1, 0, 2);
        s.dueOutcome(0, 1, 1, 1, 2, ZERO, -1);
        s.dueOutcome(1, 0, 1, 1, 6, FOUR, -1, -2, -3, -4, -5);
        s.begin(1, 0);
        s.rule(NEXT, -1);
        s.dueLead("one child", 1, -1);
        s.dueOutcome(0, 0, 1, 1, 2, NEXT, -1);
        s.anew();
        s.type();
        for (int c = 0; c < 24; c++) {
            s.constructor(0, 0, 0);
        }
        s.begin(1, 0);
        for (int r = 0; r < 24; r++) {
            s.rule(23 - r);
        }
        s.dueLead("24 children", 24, -1);
        for (int i = 0; i < 24; i++) {
            s.due("outcome(" + i + ", 0)", 23 - i, s.outcome(i, 0));
            s.due("outcome(" + i + ", 4)", i, s.outcome(i, 4));
        }
    }

    private static void nameWhereverItStands() {
        Sentence s = terms("the name being, wherever it stands, that constructor with new free names");
        s.numbers(2);
        s.rule(FOUR, -1, -1, -1, -1, -1);
        s.dueLead("in the other argument too", 1, -1, FOUR, -1, -2, -1, ZERO);
        s.dueOutcome(0, 0, 1, 1, 18, FOUR, -1, -2, -3, -4, FOUR, FOUR, -1, -2, -3, -4, -5, FOUR, -1, -2, -3, -4, ZERO);
        s.begin(2, 0);
        s.rule(ZERO, NEXT, -1);
        s.dueLead("it can't be another one then", 0, -1, -1);
        s.dueLead("but another name can", 1, -1, -2);
        s.begin(2, 0);
        s.rule(NEXT, NEXT, -1, NEXT, -1);
        s.dueLead("it is asked again, and is no free name then", 1, -1, -1);
        s.dueOutcome(0, 0, 3, 2, 6, NEXT, NEXT, -1, NEXT, NEXT, -1);
        s.begin(1, 0);
        s.rowOf(159, NEXT);
        s.rule(ZERO);
        s.dueLead("new names are asked in turn", 1, -8);
        s.due("asked", 160, s.outcome(0, 1));
        s.due("names", 160, s.outcome(0, 2));
        s.due("numbers", 160, s.outcome(0, 3));
        s.due("the last", ZERO, s.outcome(0, 163));
    }

    private static void termsAsTheyAreThen() {
        Sentence s = terms("An outcome's TERMS are the arguments as they are then.");
        s.numbers(2);
        s.rule(-1, ZERO);
        s.rule(-1, -1);
        s.rule(ZERO, NEXT, -1);
        s.dueLead("each way has its own", 3, -5, -3);
        s.dueOutcome(0, 0, 1, 1, 2, -1, ZERO);
        s.dueOutcome(1, 1, 0, 0, 2, -1, -2);
        s.dueOutcome(2, 2, 2, 2, 3, ZERO, NEXT, -1);
        s.dueLead("nothing was asked of a name", 2, -5, ZERO);
        s.dueOutcome(0, 0, 1, 0, 2, -1, ZERO);
        s.dueOutcome(1, 1, 0, 0, 2, -1, ZERO);
        s.begin(0, 0);
        s.rule();
        s.dueLead("no arguments", 1);
        s.dueOutcome(0, 0, 0, 0, 0);
    }
}
