/** Any calls with any arguments, far beyond the 512th too, end and never throw. */
public final class AnyCallsTest {
    private static final int OBJECTS = 300;
    private static final int CALLS = 6000;

    private static final Dice DICE = new Dice(4711);

    private static int below(int n) {
        return DICE.below(n);
    }

    private static int any() {
        int[] edges = {-1000, -9, -8, -2, -1, 0, 4, 5, 6, 12, 16, 24, 60, 160, 400, 512, 9600};
        switch (below(4)) {
            case 0:
                return below(2) == 0 ? Integer.MIN_VALUE + below(3) : Integer.MAX_VALUE - below(3);
            case 1:
                return edges[below(edges.length)];
            default:
                return below(12) - 2;
        }
    }

    /** A chain of many numbers: rules of these come to the end of the rows inside the object. */
    private static void chain(NeededTrees x, int last) {
        int many = below(170);
        for (int i = 0; i < many; i++) {
            x.put(1);
        }
        x.put(last);
    }

    private static void call(NeededTrees x, int pick) {
        switch (pick) {
            case 0:
                x.type();
                break;
            case 1:
                x.constructor(any(), any(), any());
                break;
            case 2:
                if (below(8) == 0) {
                    x.begin(any(), any());
                }
                break;
            case 3:
                x.put(any());
                break;
            case 4:
                x.rule();
                break;
            case 5:
                x.lead();
                break;
            case 6:
                x.outcome(any(), any());
                break;
            case 7:
                x.size();
                break;
            case 8:
                x.node(any(), any());
                break;
            case 9:
                x.covers();
                break;
            case 10:
                x.clash(any(), any());
                break;
            case 11:
                x.count(any());
                break;
            case 12:
                chain(x, below(3) - 1);
                x.rule();
                break;
            default:
                chain(x, -1 - below(9));
                x.lead();
        }
    }

    public static void main(String[] args) {
        int mostRules = 0;
        int mostNodes = 0;
        for (int i = 0; i < OBJECTS; i++) {
            NeededTrees x = new NeededTrees();
            if (below(2) == 0) {
                x.type();
                x.constructor(0, 0, 0);
                x.constructor(0, 1 + below(2), 0);
                x.begin(1, 0);
            }
            for (int k = 0; k < CALLS; k++) {
                try {
                    call(x, below(14));
                } catch (RuntimeException | StackOverflowError e) {
                    System.out.println(e);
                    Check.due("object " + i + " call " + k + " throws", 0, 1);
                }
                mostRules = Math.max(mostRules, x.count(2));
                mostNodes = Math.max(mostNodes, x.size());
            }
        }
        System.out.println("most rules " + mostRules + ", most nodes " + mostNodes);
        Check.due("long trees were made", true, mostNodes > 160);
        Check.end();
    }
}
