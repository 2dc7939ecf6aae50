import java.util.ArrayList;
import java.util.LinkedHashMap;
import java.util.List;
import java.util.Map;

/**
 * Terms whose names can become other terms: what two of them have in common, said without any tree.
 * A row is read anew for each question, as the names that become something stay so.
 */
final class Common {
    private final int c;
    private final Object name;
    private final List<Common> parts = new ArrayList<>();
    private Common became;

    private Common(int c, Object name) {
        this.c = c;
        this.name = name;
    }

    /** The terms of a row that is as wanted; in patterns each variable is a name of its own. */
    static List<Common> read(List<Integer> row, List<Integer> arities, boolean patterns) {
        List<Common> all = new ArrayList<>();
        Map<Integer, Common> names = new LinkedHashMap<>();
        int[] at = {0};
        while (at[0] < row.size()) {
            all.add(readOne(row, arities, patterns ? null : names, at));
        }
        return all;
    }

    private static Common readOne(List<Integer> row, List<Integer> arities, Map<Integer, Common> names, int[] at) {
        int v = row.get(at[0]++);
        if (v < 0) {
            return names == null ? new Common(-1, new Object()) : names.computeIfAbsent(v, x -> new Common(-1, x));
        }
        Common term = new Common(v, null);
        for (int i = 0; i < arities.get(v); i++) {
            term.parts.add(readOne(row, arities, names, at));
        }
        return term;
    }

    private boolean isName() {
        return c < 0;
    }

    private Common now() {
        Common at = this;
        while (at.became != null) {
            at = at.became;
        }
        return at;
    }

    /** Whether some terms are both of these; the names are what they are in the most of such terms. */
    static boolean meet(List<Common> some, List<Common> others) {
        for (int i = 0; i < some.size(); i++) {
            if (!meet(some.get(i).now(), others.get(i).now())) {
                return false;
            }
        }
        return true;
    }

    private static boolean meet(Common a, Common b) {
        if (a == b) {
            return true;
        }
        if (a.isName() || b.isName()) {
            Common from = a.isName() ? a : b;
            from.became = from == a ? b : a;
            return true;
        }
        return a.c == b.c && meet(a.parts, b.parts);
    }

    /** The numbers of terms, names being -1, -2, .. by their first coming. */
    static List<Integer> numbers(List<Common> terms) {
        List<Integer> all = new ArrayList<>();
        Map<Common, Integer> names = new LinkedHashMap<>();
        for (Common term : terms) {
            term.tell(all, names);
        }
        return all;
    }

    private void tell(List<Integer> all, Map<Common, Integer> names) {
        Common term = now();
        all.add(term.isName() ? names.computeIfAbsent(term, x -> -1 - names.size()) : term.c);
        for (Common part : term.parts) {
            part.tell(all, names);
        }
    }

    /**
     * Where patterns have a constructor at or below a name of the terms: the name, and the places from
     * it on. What is in one of these places of one name is free only once.
     */
    static void free(List<Common> patterns, List<Common> terms, List<String> wheres) {
        for (int i = 0; i < patterns.size(); i++) {
            Common term = terms.get(i);
            if (term.isName()) {
                patterns.get(i).constructors("name " + term.name, wheres);
            } else if (!patterns.get(i).isName()) {
                free(patterns.get(i).parts, term.parts, wheres);
            }
        }
    }

    private void constructors(String where, List<String> wheres) {
        if (isName()) {
            return;
        }
        if (!wheres.contains(where)) {
            wheres.add(where);
        }
        for (int i = 0; i < parts.size(); i++) {
            parts.get(i).constructors(where + " " + i, wheres);
        }
    }
}
