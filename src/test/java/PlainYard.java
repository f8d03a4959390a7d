import java.util.ArrayList;
import java.util.BitSet;
import java.util.List;
import java.util.NoSuchElementException;

/** The document said again as plainly as can be: every set of assignments is held whole, and no search is clever. */
final class PlainYard {
    private static final int ALL = 1 << 18;
    private static final String ARGUMENT = IllegalArgumentException.class.getName();
    private static final String STATE = IllegalStateException.class.getName();
    private static final String ELEMENT = NoSuchElementException.class.getName();
    private static final BitSet[] WHERE_ONE = whereOne();

    private final List<Integer> tape = new ArrayList<>();
    private final List<BitSet> clauses = new ArrayList<>();
    private final List<Integer> levels = new ArrayList<>();
    private final List<Integer> assumptions = new ArrayList<>();
    private int level = 0;
    private int model = -1;

    private static BitSet[] whereOne() {
        BitSet[] sets = new BitSet[18];
        for (int v = 0; v < 18; v++) {
            sets[v] = new BitSet(ALL);
            for (int a = 0; a < ALL; a++) {
                sets[v].set(a, (a / (1 << v)) % 2 == 1);
            }
        }
        return sets;
    }

    private static BitSet whereTrue(int literal) {
        BitSet set = (BitSet) WHERE_ONE[Math.abs(literal) - 1].clone();
        if (literal < 0) {
            set.flip(0, ALL);
        }
        return set;
    }

    private BitSet good(int leftOut) {
        BitSet set = new BitSet(ALL);
        set.set(0, ALL);
        for (BitSet clause : clauses) {
            set.and(clause);
        }
        for (int i = 0; i < assumptions.size(); i++) {
            if (i != leftOut) {
                set.and(whereTrue(assumptions.get(i)));
            }
        }
        return set;
    }

    private static boolean isLiteral(int n) {
        return 1 <= n && n <= 18 || -18 <= n && n <= -1;
    }

    String answer(String call) {
        String[] words = call.split(" ");
        int n = words.length > 1 ? Integer.parseInt(words[1]) : 0;
        switch (words[0]) {
            case "put": return put(n);
            case "add": return add();
            case "open": return open();
            case "close": return close();
            case "assume": return assume(n);
            case "free": return free();
            case "least": return found(good(-1).nextSetBit(0));
            case "next": return model < 0 ? STATE : found(good(-1).nextSetBit(model + 1));
            case "can": return String.valueOf(!good(-1).isEmpty());
            case "forced": return forced(n);
            case "blames": return blames(n);
            case "count": return n < 1 || n > 64 ? ARGUMENT : String.valueOf(Math.min(n, good(-1).cardinality()));
            case "value": return value(n);
            case "look": return look(n);
            default: throw new AssertionError(call);
        }
    }

    private String found(int assignment) {
        model = assignment;
        return String.valueOf(assignment);
    }

    private String put(int literal) {
        if (!isLiteral(literal)) {
            return ARGUMENT;
        }
        if (tape.size() == 18) {
            return STATE;
        }
        tape.add(literal);
        return String.valueOf(tape.size());
    }

    private String add() {
        if (clauses.size() == 400) {
            return STATE;
        }
        BitSet clause = new BitSet(ALL);
        for (int literal : tape) {
            clause.or(whereTrue(literal));
        }
        clauses.add(clause);
        levels.add(level);
        tape.clear();
        model = -1;
        return String.valueOf(clauses.size());
    }

    private String open() {
        if (level == 40) {
            return STATE;
        }
        level++;
        model = -1;
        return String.valueOf(level);
    }

    private String close() {
        if (level == 0) {
            return STATE;
        }
        int gone = 0;
        for (int i = clauses.size() - 1; i >= 0; i--) {
            if (levels.get(i) == level) {
                clauses.remove(i);
                levels.remove(i);
                gone++;
            }
        }
        level--;
        model = -1;
        return String.valueOf(gone);
    }

    private String assume(int literal) {
        if (!isLiteral(literal)) {
            return ARGUMENT;
        }
        if (assumptions.size() == 18) {
            return STATE;
        }
        assumptions.add(literal);
        model = -1;
        return String.valueOf(assumptions.size());
    }

    private String free() {
        int gone = assumptions.size();
        assumptions.clear();
        model = -1;
        return String.valueOf(gone);
    }

    private String forced(int literal) {
        if (!isLiteral(literal)) {
            return ARGUMENT;
        }
        BitSet set = good(-1);
        set.andNot(whereTrue(literal));
        return String.valueOf(set.isEmpty());
    }

    private String blames(int i) {
        if (i < 0 || i >= assumptions.size()) {
            return ELEMENT;
        }
        return String.valueOf(good(-1).isEmpty() && !good(i).isEmpty());
    }

    private String value(int variable) {
        if (variable < 1 || variable > 18) {
            return ARGUMENT;
        }
        if (model < 0) {
            return STATE;
        }
        return WHERE_ONE[variable - 1].get(model) ? "1" : "0";
    }

    private String look(int what) {
        switch (what) {
            case 0: return String.valueOf(clauses.size());
            case 1: return String.valueOf(level);
            case 2: return String.valueOf(assumptions.size());
            case 3: return String.valueOf(tape.size());
            case 4: return model < 0 ? "0" : "1";
            default: return ARGUMENT;
        }
    }
}
