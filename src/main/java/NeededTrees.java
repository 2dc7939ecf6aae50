import java.util.Arrays;

/**
 * Rules of patterns become a tree of BRANCHES and ORS, along which terms, also with free names in
 * them, are led to the rules that are theirs.
 */
public final class NeededTrees {
    public static final int NONE = -1;

    private static final int NO_SUCH = NONE - 8;
    private static final int TOO_LONG = -1000;

    private static final int MOST_TYPES = 12;
    private static final int MOST_CONSTRUCTORS = 60;
    private static final int MOST_PARTS = 4;
    private static final int MOST_ARGUMENTS = 6;
    private static final int MOST_RULES = 24;
    private static final int MOST_NAMES = 8;
    private static final int ROW = 160;
    private static final int TOLD = 400;

    // 512 calls put fewer than 512 numbers, so the rules together never have more.
    private static final int PATTERNS = 512;

    // Each BRANCH asks a number of a rule that no other BRANCH asks, each rule has one LEAF,
    // and each OR parts its rules: so there are fewer ORS than rules.
    private static final int NODES = PATTERNS + 2 * MOST_RULES;

    // On the way to one rule there are no more BRANCHES than its numbers, and fewer ORS than rules.
    private static final int DEPTH = ROW + MOST_RULES + 2;

    // The names, the row, and new names for each BRANCH on the way to a rule.
    private static final int CELLS = MOST_NAMES + ROW + MOST_PARTS * ROW;

    // In place of a constructor: what the arguments stand in.
    private static final int FUNCTION = -1;

    private static final int LEAF = 0;
    private static final int BRANCH = 1;
    private static final int OR = 2;

    private final Signature signature = new Signature();
    private final Row row = new Row();
    private final Rules rules = new Rules();
    private final Tree tree = new Tree();
    private final Planter planter = new Planter(rules, tree);
    private final Terms terms = new Terms(signature);
    private final Outcomes outcomes = new Outcomes();
    private final Walk walk = new Walk(rules, tree, terms, outcomes);
    private boolean treeIsOld;

    public NeededTrees() {
    }

    public int type() {
        return signature.addType();
    }

    public int constructor(int type, int arity, int types) {
        int made = signature.addConstructor(type, arity, types);
        if (made != NONE) {
            outcomes.clear();
        }
        return made;
    }

    public boolean begin(int n, int types) {
        if (!signature.setFunction(n, types)) {
            return false;
        }
        rules.clear();
        treeIsOld = true;
        outcomes.clear();
        return true;
    }

    public int put(int v) {
        return row.add(v);
    }

    public int rule() {
        int n = row.take();
        if (!signature.hasFunction() || !rules.hasRoom(n)) {
            return NONE;
        }
        int wrong = row.firstWrong(n, signature, false);
        if (wrong != NONE) {
            return -2 - wrong;
        }
        int added = rules.add(row, n);
        treeIsOld = true;
        outcomes.clear();
        return added;
    }

    public int lead() {
        int n = row.take();
        if (!signature.hasFunction()) {
            return NONE;
        }
        outcomes.clear();
        int wrong = row.firstWrong(n, signature, true);
        if (wrong != NONE) {
            return -2 - wrong;
        }
        terms.load(row, n);
        refreshTree();
        if (!walk.reachesAll()) {
            outcomes.clear();
            return TOO_LONG;
        }
        return outcomes.many;
    }

    public int outcome(int i, int what) {
        return outcomes.answer(i, what);
    }

    public int size() {
        refreshTree();
        return tree.nodes;
    }

    public int node(int k, int what) {
        refreshTree();
        return tree.answer(rules, k, what);
    }

    public boolean covers() {
        refreshTree();
        return tree.coversAll(rules, signature);
    }

    public boolean clash(int i, int j) {
        return rules.meet(i, j);
    }

    public int count(int what) {
        refreshTree();
        switch (what) {
            case 0:
                return signature.types;
            case 1:
                return signature.made;
            case 2:
                return rules.many;
            case 3:
                return signature.arguments;
            case 4:
                return row.length;
            case 5:
                return outcomes.many;
            case 6:
                return tree.howMany(OR);
            case 7:
                return tree.howMany(BRANCH);
            case 8:
                return tree.deepest();
            default:
                return NO_SUCH;
        }
    }

    /** Only when the tree is asked for, as rules mostly come one behind the other. */
    private void refreshTree() {
        if (treeIsOld) {
            planter.plant();
            treeIsOld = false;
        }
    }

    /** What stands at a place of a row; NONE beside it, so that no index can ever be a wrong one. */
    private static int get(int[] from, int i) {
        return i >= 0 && i < from.length ? from[i] : NONE;
    }

    private static void set(int[] into, int i, int v) {
        if (i >= 0 && i < into.length) {
            into[i] = v;
        }
    }

    private static boolean has(int mask, int i) {
        return (mask >> i & 1) != 0;
    }

    /** The types, the constructors, and which arguments the function has. */
    private static final class Signature {
        private final int[] ownTypes = new int[MOST_CONSTRUCTORS];
        private final int[] arities = new int[MOST_CONSTRUCTORS];
        private final int[] partTypes = new int[MOST_CONSTRUCTORS];
        private int types;
        private int made;
        private int arguments = NONE;
        private int argumentTypes;

        private int addType() {
            if (types >= MOST_TYPES) {
                return NONE;
            }
            types++;
            return types - 1;
        }

        private int addConstructor(int type, int arity, int packed) {
            if (type < 0 || type >= types || made >= MOST_CONSTRUCTORS) {
                return NONE;
            }
            if (arity < 0 || arity > MOST_PARTS || !areTypes(arity, packed)) {
                return NONE;
            }
            set(ownTypes, made, type);
            set(arities, made, arity);
            set(partTypes, made, packed);
            made++;
            return made - 1;
        }

        private boolean setFunction(int n, int packed) {
            if (n < 0 || n > MOST_ARGUMENTS || !areTypes(n, packed)) {
                return false;
            }
            arguments = n;
            argumentTypes = packed;
            return true;
        }

        private boolean hasFunction() {
            return arguments != NONE;
        }

        private boolean areTypes(int n, int packed) {
            for (int place = 0; place < n; place++) {
                if (unpack(packed, place) >= types) {
                    return false;
                }
            }
            return true;
        }

        private int typeOf(int c) {
            return c < made ? get(ownTypes, c) : NONE;
        }

        private int parts(int c) {
            return c == FUNCTION ? arguments : get(arities, c);
        }

        private int wanted(int c, int place) {
            return unpack(c == FUNCTION ? argumentTypes : get(partTypes, c), place);
        }

        private int constructorsOf(int type) {
            int many = 0;
            for (int c = 0; c < made; c++) {
                if (get(ownTypes, c) == type) {
                    many++;
                }
            }
            return many;
        }

        private static int unpack(int packed, int place) {
            return packed >> 4 * place & 15;
        }
    }

    /** The numbers that were put, and, when they have been read, how they hang together. */
    private static final class Row {
        private final int[] numbers = new int[ROW];
        private final int[] up = new int[ROW];
        private final int[] place = new int[ROW];
        private final int[] end = new int[ROW];
        private final int[] nameTypes = new int[MOST_NAMES];
        private int length;
        // Where the next number comes: in what, and as which of its parts.
        private int holder;
        private int next;

        private int add(int v) {
            if (length >= ROW) {
                return NONE;
            }
            set(numbers, length, v);
            length++;
            return length;
        }

        /** The row is empty then, but what was in it can be read until the next number is put. */
        private int take() {
            int taken = length;
            length = 0;
            return taken;
        }

        /** The place of the first number that is not as wanted; NONE if all are. */
        private int firstWrong(int n, Signature signature, boolean terms) {
            Arrays.fill(nameTypes, NONE);
            holder = NONE;
            next = 0;
            for (int i = 0; i < n; i++) {
                if (isWhole(signature)) {
                    return i;
                }
                int wanted = signature.wanted(holding(), next);
                if (!fits(get(numbers, i), wanted, signature, terms)) {
                    return i;
                }
                hang(i);
                closeWhole(i + 1, signature);
            }
            return isWhole(signature) ? NONE : n;
        }

        private boolean isWhole(Signature signature) {
            return holder == NONE && next >= signature.parts(FUNCTION);
        }

        private int holding() {
            return holder == NONE ? FUNCTION : get(numbers, holder);
        }

        private boolean fits(int v, int wanted, Signature signature, boolean terms) {
            if (v >= 0) {
                return signature.typeOf(v) == wanted;
            }
            if (!terms) {
                return v == -1;
            }
            int name = -1 - v;
            if (name >= MOST_NAMES) {
                return false;
            }
            if (get(nameTypes, name) == NONE) {
                set(nameTypes, name, wanted);
            }
            return get(nameTypes, name) == wanted;
        }

        private void hang(int i) {
            set(up, i, holder);
            set(place, i, next);
            if (get(numbers, i) >= 0) {
                holder = i;
                next = 0;
            } else {
                set(end, i, i + 1);
                next++;
            }
        }

        private void closeWhole(int until, Signature signature) {
            for (int step = 0; step < ROW; step++) {
                if (holder == NONE || next < signature.parts(holding())) {
                    return;
                }
                set(end, holder, until);
                next = get(place, holder) + 1;
                holder = get(up, holder);
            }
        }
    }

    /** The patterns of all rules, one behind the other. */
    private static final class Rules {
        private final int[] starts = new int[MOST_RULES + 1];
        private final int[] symbol = new int[PATTERNS];
        private final int[] up = new int[PATTERNS];
        private final int[] place = new int[PATTERNS];
        private final int[] end = new int[PATTERNS];
        // How deep the BRANCH is that asks this number; a rule comes to each BRANCH on one way only.
        private final int[] askedAt = new int[PATTERNS];
        private int many;

        private void clear() {
            many = 0;
        }

        private boolean hasRoom(int n) {
            return many < MOST_RULES && start(many) + n <= PATTERNS;
        }

        private int start(int rule) {
            return get(starts, rule);
        }

        private int add(Row row, int n) {
            int base = start(many);
            for (int i = 0; i < n; i++) {
                int holder = get(row.up, i);
                set(symbol, base + i, get(row.numbers, i));
                set(up, base + i, holder == NONE ? NONE : base + holder);
                set(place, base + i, get(row.place, i));
                set(end, base + i, base + get(row.end, i));
            }
            many++;
            set(starts, many, base + n);
            return many - 1;
        }

        private void forgetAsked() {
            Arrays.fill(askedAt, NONE);
        }

        private boolean isAsked(int x) {
            return get(askedAt, x) != NONE;
        }

        private boolean isVariable(int x) {
            return get(symbol, x) < 0;
        }

        private boolean meet(int i, int j) {
            if (i < 0 || i >= many || j < 0 || j >= many) {
                return false;
            }
            int x = start(i);
            int y = start(j);
            for (int step = 0; step < ROW && x < start(i + 1); step++) {
                if (isVariable(x) || isVariable(y)) {
                    x = get(end, x);
                    y = get(end, y);
                } else if (get(symbol, x) != get(symbol, y)) {
                    return false;
                } else {
                    x++;
                    y++;
                }
            }
            return true;
        }

        private int placesTo(int x) {
            int places = 0;
            int at = x;
            for (int step = 0; step < ROW && at != NONE; step++) {
                places++;
                at = get(up, at);
            }
            return places;
        }

        /** The i-th place, from the argument on, of the position of a number. */
        private int placeOnWay(int x, int i) {
            int at = x;
            for (int left = placesTo(x) - 1; left > i; left--) {
                at = get(up, at);
            }
            return get(place, at);
        }
    }

    /** The nodes, each one ahead of its children. */
    private static final class Tree {
        private final int[] kind = new int[NODES];
        // The rule of a LEAF; of a BRANCH the number that it asks, in the first of its rules.
        private final int[] subject = new int[NODES];
        private final int[] children = new int[NODES];
        private final int[] label = new int[NODES];
        private final int[] depth = new int[NODES];
        private final int[] covering = new int[DEPTH];
        private int nodes;

        private void clear() {
            nodes = 0;
        }

        private void add(int kindOf, int subjectOf, int labelOf, int depthOf, int childrenOf) {
            if (nodes >= NODES) {
                return;
            }
            set(kind, nodes, kindOf);
            set(subject, nodes, subjectOf);
            set(label, nodes, labelOf);
            set(depth, nodes, depthOf);
            set(children, nodes, childrenOf);
            nodes++;
        }

        private int answer(Rules rules, int k, int what) {
            if (k < 0 || k >= nodes || what < 0) {
                return NO_SUCH;
            }
            switch (what) {
                case 0:
                    return get(kind, k);
                case 1:
                    return get(kind, k) == LEAF ? get(subject, k) : places(rules, k);
                case 2:
                    return get(children, k);
                case 3:
                    return get(label, k);
                case 4:
                    return get(depth, k);
                default:
                    int i = what - 5;
                    return i < places(rules, k) ? rules.placeOnWay(get(subject, k), i) : NO_SUCH;
            }
        }

        private int places(Rules rules, int k) {
            return get(kind, k) == BRANCH ? rules.placesTo(get(subject, k)) : 0;
        }

        private int howMany(int wanted) {
            int many = 0;
            for (int k = 0; k < nodes; k++) {
                if (get(kind, k) == wanted) {
                    many++;
                }
            }
            return many;
        }

        private int deepest() {
            int most = 0;
            for (int k = 0; k < nodes; k++) {
                most = Math.max(most, get(depth, k));
            }
            return most;
        }

        /** From the last node back: what was seen one deeper since, are the node's children. */
        private boolean coversAll(Rules rules, Signature signature) {
            Arrays.fill(covering, 0);
            for (int k = nodes - 1; k >= 0; k--) {
                int d = get(depth, k);
                int good = get(covering, d + 1);
                set(covering, d + 1, 0);
                if (coversWith(good, k, rules, signature)) {
                    set(covering, d, get(covering, d) + 1);
                }
            }
            return get(covering, 0) > 0;
        }

        private boolean coversWith(int good, int k, Rules rules, Signature signature) {
            switch (get(kind, k)) {
                case LEAF:
                    return true;
                case OR:
                    return good > 0;
                default:
                    int asked = get(rules.symbol, get(subject, k));
                    return good == signature.constructorsOf(signature.typeOf(asked));
            }
        }
    }

    /** Makes the tree of the rules. Groups of rules are masks: rule r is bit r. */
    private static final class Planter {
        private final Rules rules;
        private final Tree tree;
        // Trees that wait to be made, the next one last; no rule is in two of them.
        private final int[] groups = new int[MOST_RULES];
        private final int[] labels = new int[MOST_RULES];
        private final int[] depths = new int[MOST_RULES];
        // Where in each rule's patterns the open position is that is looked at.
        private final int[] cursor = new int[MOST_RULES];
        private int waiting;

        private Planter(Rules rules, Tree tree) {
            this.rules = rules;
            this.tree = tree;
        }

        private void plant() {
            tree.clear();
            rules.forgetAsked();
            waiting = 0;
            if (rules.many > 0) {
                await((1 << rules.many) - 1, NONE, 0);
            }
            for (int step = 0; step < NODES && waiting > 0; step++) {
                waiting--;
                grow(get(groups, waiting), get(labels, waiting), get(depths, waiting));
            }
        }

        private void await(int group, int label, int depth) {
            if (waiting < MOST_RULES) {
                set(groups, waiting, group);
                set(labels, waiting, label);
                set(depths, waiting, depth);
                waiting++;
            }
        }

        private void grow(int group, int label, int depth) {
            int needing = takePosition(group);
            int before = waiting;
            if (needing == group) {
                int asked = get(cursor, firstOf(group));
                ask(group, depth);
                tree.add(BRANCH, asked, label, depth, waiting - before);
            } else if (needing != 0) {
                partByNeed(group, needing, depth);
                tree.add(OR, NONE, label, depth, waiting - before);
            } else if (Integer.bitCount(group) > 1) {
                partEach(group, depth);
                tree.add(OR, NONE, label, depth, waiting - before);
            } else {
                tree.add(LEAF, firstOf(group), label, depth, 0);
            }
        }

        /**
         * Which rules need the position that is taken; 0 if none needs any. If all do, the cursors
         * stand there. The open row is not kept: in the rules' numbers it is what comes when those
         * that were asked are entered and all others passed.
         */
        private int takePosition(int group) {
            int first = firstOf(group);
            int some = 0;
            startCursors(group);
            for (int step = 0; step < ROW && get(cursor, first) < rules.start(first + 1); step++) {
                if (rules.isAsked(get(cursor, first))) {
                    enter(group);
                    continue;
                }
                int needing = needing(group);
                if (needing == group) {
                    return group;
                }
                some = some == 0 ? needing : some;
                pass(group);
            }
            return some;
        }

        private void startCursors(int group) {
            for (int r = 0; r < rules.many; r++) {
                if (has(group, r)) {
                    set(cursor, r, rules.start(r));
                }
            }
        }

        private void enter(int group) {
            for (int r = 0; r < rules.many; r++) {
                if (has(group, r)) {
                    set(cursor, r, get(cursor, r) + 1);
                }
            }
        }

        private void pass(int group) {
            for (int r = 0; r < rules.many; r++) {
                if (has(group, r)) {
                    set(cursor, r, get(rules.end, get(cursor, r)));
                }
            }
        }

        private int needing(int group) {
            int needing = 0;
            for (int r = 0; r < rules.many; r++) {
                if (has(group, r) && !rules.isVariable(get(cursor, r))) {
                    needing |= 1 << r;
                }
            }
            return needing;
        }

        /** Children wait from the last one on, as the last that waits is made first. */
        private void ask(int group, int depth) {
            int rest = group;
            for (int child = 0; child < MOST_RULES && rest != 0; child++) {
                int c = lastConstructor(rest);
                int having = having(rest, c);
                await(having, c, depth + 1);
                rest &= ~having;
            }
            for (int r = 0; r < rules.many; r++) {
                if (has(group, r)) {
                    set(rules.askedAt, get(cursor, r), depth);
                }
            }
        }

        private int lastConstructor(int group) {
            int last = NONE;
            for (int r = 0; r < rules.many; r++) {
                if (has(group, r)) {
                    last = Math.max(last, get(rules.symbol, get(cursor, r)));
                }
            }
            return last;
        }

        private int having(int group, int c) {
            int having = 0;
            for (int r = 0; r < rules.many; r++) {
                if (has(group, r) && get(rules.symbol, get(cursor, r)) == c) {
                    having |= 1 << r;
                }
            }
            return having;
        }

        private void partByNeed(int group, int needing, int depth) {
            int run = 0;
            boolean runNeeds = false;
            for (int r = rules.many - 1; r >= 0; r--) {
                if (!has(group, r)) {
                    continue;
                }
                if (run != 0 && has(needing, r) != runNeeds) {
                    await(run, NONE, depth + 1);
                    run = 0;
                }
                run |= 1 << r;
                runNeeds = has(needing, r);
            }
            await(run, NONE, depth + 1);
        }

        private void partEach(int group, int depth) {
            for (int r = rules.many - 1; r >= 0; r--) {
                if (has(group, r)) {
                    await(1 << r, NONE, depth + 1);
                }
            }
        }

        private static int firstOf(int group) {
            return Integer.bitCount((group & -group) - 1);
        }
    }

    /**
     * The terms that are led. The first cells are the free names, so that a name that becomes a
     * constructor is one wherever it stands; behind them come the row, and new names.
     */
    private static final class Terms {
        // Below all numbers by which a cell of the row means a name.
        private static final int FREE = -1 - MOST_NAMES;

        private final Signature signature;
        private final int[] head = new int[CELLS];
        private final int[] first = new int[CELLS];
        private final int[] end = new int[CELLS];
        // How often a free name stands in the terms: their length is known without writing them.
        private final int[] times = new int[CELLS];
        private final int[] alias = new int[CELLS];
        private final int[] bound = new int[ROW];
        private final int[] unwritten = new int[TOLD];
        private int cells;
        private int bindings;
        private int length;
        private int left;

        private Terms(Signature signature) {
            this.signature = signature;
        }

        private void load(Row row, int n) {
            for (int v = 0; v < MOST_NAMES; v++) {
                set(head, v, FREE);
                set(times, v, 0);
            }
            for (int i = 0; i < n; i++) {
                int number = get(row.numbers, i);
                int x = MOST_NAMES + i;
                set(head, x, number);
                set(first, x, x + 1);
                set(end, x, MOST_NAMES + get(row.end, i));
                if (number < 0) {
                    set(times, -1 - number, get(times, -1 - number) + 1);
                }
            }
            cells = MOST_NAMES + n;
            bindings = 0;
            length = n;
        }

        private int meant(int x) {
            int h = get(head, x);
            return h < 0 && h > FREE ? -1 - h : x;
        }

        private boolean isFree(int x) {
            return get(head, x) == FREE;
        }

        /** The cell of a part of a constructor's cell, or of an argument for NONE. */
        private int part(int holder, int place) {
            int x = holder == NONE ? MOST_NAMES : get(first, holder);
            for (int k = 0; k < place; k++) {
                x = get(end, x);
            }
            return meant(x);
        }

        private void bind(int x, int c) {
            int parts = signature.parts(c);
            if (bindings >= ROW || cells + parts > CELLS) {
                return;
            }
            set(bound, bindings, x);
            bindings++;
            set(head, x, c);
            set(first, x, cells);
            for (int k = 0; k < parts; k++) {
                set(head, cells, FREE);
                set(end, cells, cells + 1);
                set(times, cells, get(times, x));
                cells++;
            }
            length += parts * get(times, x);
        }

        private void unbindTo(int mark) {
            for (int b = bindings - 1; b >= mark && b >= 0; b--) {
                int x = get(bound, b);
                length -= signature.parts(get(head, x)) * get(times, x);
                cells = get(first, x);
                set(head, x, FREE);
                bindings = b;
            }
        }

        private void write(int[] into, int from) {
            int names = 0;
            Arrays.fill(alias, 0);
            left = 0;
            leave(MOST_NAMES, signature.parts(FUNCTION));
            for (int i = 0; i < length && left > 0; i++) {
                left--;
                int x = meant(get(unwritten, left));
                int h = get(head, x);
                if (h >= 0) {
                    leave(get(first, x), signature.parts(h));
                } else if (get(alias, x) == 0) {
                    names++;
                    set(alias, x, -names);
                }
                set(into, from + i, h >= 0 ? h : get(alias, x));
            }
        }

        private void leave(int from, int many) {
            int x = from;
            for (int k = many - 1; k >= 0; k--) {
                set(unwritten, left + k, x);
                x = get(end, x);
            }
            left += many;
        }
    }

    /** Where the terms came to. */
    private static final class Outcomes {
        private final int[] rules = new int[MOST_RULES];
        private final int[] asks = new int[MOST_RULES];
        private final int[] freeAsks = new int[MOST_RULES];
        private final int[] lengths = new int[MOST_RULES];
        // By far the longest row of an object: made only when there is something to tell.
        private int[] told = new int[0];
        private int many;

        private void clear() {
            many = 0;
        }

        private void add(int rule, int asked, int askedFree, Terms terms) {
            if (many >= MOST_RULES || terms.length > TOLD) {
                return;
            }
            if (told.length == 0) {
                told = new int[MOST_RULES * TOLD];
            }
            set(rules, many, rule);
            set(asks, many, asked);
            set(freeAsks, many, askedFree);
            set(lengths, many, terms.length);
            terms.write(told, many * TOLD);
            many++;
        }

        private int answer(int i, int what) {
            if (i < 0 || i >= many || what < 0) {
                return NO_SUCH;
            }
            switch (what) {
                case 0:
                    return get(rules, i);
                case 1:
                    return get(asks, i);
                case 2:
                    return get(freeAsks, i);
                case 3:
                    return get(lengths, i);
                default:
                    int place = what - 4;
                    return place < get(lengths, i) ? get(told, i * TOLD + place) : NO_SUCH;
            }
        }
    }

    /**
     * Leads the terms. The rows have an entry for each node on the way, at its depth + 1, so that
     * the entry 0 stands for what is ahead of the first node.
     */
    private static final class Walk {
        private final Rules rules;
        private final Tree tree;
        private final Terms terms;
        private final Outcomes outcomes;
        private final int[] marks = new int[DEPTH + 1];
        private final int[] cells = new int[DEPTH + 1];
        private final int[] asks = new int[DEPTH + 1];
        private final int[] freeAsks = new int[DEPTH + 1];

        private Walk(Rules rules, Tree tree, Terms terms, Outcomes outcomes) {
            this.rules = rules;
            this.tree = tree;
            this.terms = terms;
            this.outcomes = outcomes;
        }

        /** False if there would be an outcome whose terms are too long to be told. */
        private boolean reachesAll() {
            int closed = DEPTH;
            for (int k = 0; k < tree.nodes; k++) {
                int d = get(tree.depth, k);
                if (d > closed) {
                    continue;
                }
                closed = comesTo(k, d) ? DEPTH : d;
                if (closed == DEPTH && get(tree.kind, k) == LEAF) {
                    if (terms.length > TOLD) {
                        return false;
                    }
                    outcomes.add(get(tree.subject, k), get(asks, d + 1), get(freeAsks, d + 1), terms);
                }
            }
            return true;
        }

        /** Whether what the node above asked leads to this one. */
        private boolean comesTo(int k, int d) {
            terms.unbindTo(get(marks, d));
            int label = get(tree.label, k);
            if (label != NONE) {
                int x = get(cells, d);
                if (terms.isFree(x)) {
                    terms.bind(x, label);
                } else if (get(terms.head, x) != label) {
                    return false;
                }
            }
            set(marks, d + 1, terms.bindings);
            set(asks, d + 1, get(asks, d));
            set(freeAsks, d + 1, get(freeAsks, d));
            if (get(tree.kind, k) == BRANCH) {
                ask(get(tree.subject, k), d + 1);
            }
            return true;
        }

        private void ask(int asked, int entry) {
            int above = get(rules.up, asked);
            int holder = above == NONE ? NONE : get(cells, get(rules.askedAt, above) + 1);
            int x = terms.part(holder, get(rules.place, asked));
            set(cells, entry, x);
            set(asks, entry, get(asks, entry) + 1);
            if (terms.isFree(x)) {
                set(freeAsks, entry, get(freeAsks, entry) + 1);
            }
        }
    }
}
