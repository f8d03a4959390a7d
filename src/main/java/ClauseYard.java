import java.util.NoSuchElementException;

/**
 * A yard of clauses over 18 variables, told by ../shared/DOC.md.
 *
 * A set of literals is held as two masks: "yes" for the literals v, "no" for the literals -v, bit v - 1 each.
 * All searches go through leastFrom, which counts upwards and learns from each false clause how far it may leap.
 */
public final class ClauseYard {
    private static final int VARIABLES = 18;
    private static final int HIGHEST = (1 << VARIABLES) - 1;
    private static final int TAPE_LIMIT = 18;
    private static final int CLAUSE_LIMIT = 400;
    private static final int LEVEL_LIMIT = 40;
    private static final int ASSUMPTION_LIMIT = 18;
    private static final int COUNT_LIMIT = 64;
    // Behind the clauses there is room for all assumptions and for the one literal that forced denies.
    private static final int ROWS = CLAUSE_LIMIT + ASSUMPTION_LIMIT + 1;
    private static final int NONE = -1;

    private final int[] yes = new int[ROWS];
    private final int[] no = new int[ROWS];
    private final int[] clausesBelow = new int[LEVEL_LIMIT + 1];
    private final int[] assumptions = new int[ASSUMPTION_LIMIT];
    private final int[] reasonYes = new int[VARIABLES];
    private final int[] reasonNo = new int[VARIABLES];
    private int clauseCount;
    private int level;
    private int assumptionCount;
    private int tapeCount;
    private int tapeYes;
    private int tapeNo;
    private int model;

    public ClauseYard() {
        model = NONE;
    }

    public int put(int literal) throws IllegalArgumentException, IllegalStateException {
        if (!isLiteral(literal)) {
            throw new IllegalArgumentException("no literal");
        }
        if (tapeCount >= TAPE_LIMIT) {
            throw new IllegalStateException("the tape is full");
        }
        tapeYes |= yesMask(literal);
        tapeNo |= noMask(literal);
        tapeCount++;
        return tapeCount;
    }

    public int add() throws IllegalStateException {
        if (clauseCount >= CLAUSE_LIMIT) {
            throw new IllegalStateException("the yard is full");
        }
        writeRow(clauseCount, tapeYes, tapeNo);
        clauseCount++;
        tapeCount = 0;
        tapeYes = 0;
        tapeNo = 0;
        model = NONE;
        return clauseCount;
    }

    public int open() throws IllegalStateException {
        if (level >= LEVEL_LIMIT) {
            throw new IllegalStateException("no level above this one");
        }
        level++;
        clausesBelow[level] = clauseCount;
        model = NONE;
        return level;
    }

    public int close() throws IllegalStateException {
        if (level <= 0 || level > LEVEL_LIMIT) {
            throw new IllegalStateException("no level is open");
        }
        int gone = clauseCount - clausesBelow[level];
        clauseCount = clausesBelow[level];
        level--;
        model = NONE;
        return gone;
    }

    public int assume(int literal) throws IllegalArgumentException, IllegalStateException {
        if (!isLiteral(literal)) {
            throw new IllegalArgumentException("no literal");
        }
        if (assumptionCount >= ASSUMPTION_LIMIT) {
            throw new IllegalStateException("too many assumptions");
        }
        assumptions[assumptionCount] = literal;
        assumptionCount++;
        model = NONE;
        return assumptionCount;
    }

    public int free() {
        int gone = assumptionCount;
        assumptionCount = 0;
        model = NONE;
        return gone;
    }

    public int least() {
        model = leastFrom(0, writeAssumptions(NONE));
        return model;
    }

    public int next() throws IllegalStateException {
        if (model == NONE) {
            throw new IllegalStateException("no model");
        }
        model = leastFrom(model + 1, writeAssumptions(NONE));
        return model;
    }

    public boolean can() {
        return isSatisfied(writeAssumptions(NONE));
    }

    public boolean forced(int literal) throws IllegalArgumentException {
        if (!isLiteral(literal)) {
            throw new IllegalArgumentException("no literal");
        }
        int rows = writeAssumptions(NONE);
        writeRow(rows, yesMask(-literal), noMask(-literal));
        return !isSatisfied(rows + 1);
    }

    public boolean blames(int i) throws NoSuchElementException {
        if (i < 0 || i >= assumptionCount) {
            throw new NoSuchElementException("no such assumption");
        }
        return !isSatisfied(writeAssumptions(NONE)) && isSatisfied(writeAssumptions(i));
    }

    public int count(int n) throws IllegalArgumentException {
        if (n < 1 || n > COUNT_LIMIT) {
            throw new IllegalArgumentException("not 1 .. 64");
        }
        int rows = writeAssumptions(NONE);
        int start = 0;
        for (int found = 0; found < n; found++) {
            int good = leastFrom(start, rows);
            if (good == NONE) {
                return found;
            }
            start = good + 1;
        }
        return n;
    }

    public int value(int variable) throws IllegalArgumentException, IllegalStateException {
        if (variable < 1 || variable > VARIABLES) {
            throw new IllegalArgumentException("no such variable");
        }
        if (model == NONE) {
            throw new IllegalStateException("no model");
        }
        return (model >> (variable - 1)) & 1;
    }

    public int look(int what) throws IllegalArgumentException {
        switch (what) {
            case 0:
                return clauseCount;
            case 1:
                return level;
            case 2:
                return assumptionCount;
            case 3:
                return tapeCount;
            case 4:
                return model == NONE ? 0 : 1;
            default:
                throw new IllegalArgumentException("nothing to look at");
        }
    }

    private static boolean isLiteral(int literal) {
        return literal != 0 && literal >= -VARIABLES && literal <= VARIABLES;
    }

    private static int yesMask(int literal) {
        return literal > 0 ? 1 << (literal - 1) : 0;
    }

    private static int noMask(int literal) {
        return literal < 0 ? 1 << (-literal - 1) : 0;
    }

    private void writeRow(int row, int yesLiterals, int noLiterals) {
        if (row >= 0 && row < ROWS) {
            yes[row] = yesLiterals;
            no[row] = noLiterals;
        }
    }

    /** Writes the assumptions, but for the one left out, as clauses of one literal behind the others: all rows. */
    private int writeAssumptions(int leftOut) {
        int rows = clauseCount;
        for (int i = 0; i < assumptionCount && i < ASSUMPTION_LIMIT; i++) {
            if (i != leftOut) {
                writeRow(rows, yesMask(assumptions[i]), noMask(assumptions[i]));
                rows++;
            }
        }
        return rows;
    }

    private boolean isSatisfied(int rows) {
        return leastFrom(0, rows) != NONE;
    }

    /** The least assignment from start on that makes the first rows true, or NONE. */
    private int leastFrom(int start, int rows) {
        if (start > HIGHEST) {
            return NONE;
        }
        giveReasonsOfStart(start);
        int candidate = start;
        // A leap always goes upwards, so there are no more steps than assignments.
        for (int step = 0; step <= HIGHEST && candidate != NONE; step++) {
            int row = falseRow(candidate, rows);
            if (row < 0 || row >= ROWS) {
                return candidate;
            }
            candidate = leap(candidate, yes[row], no[row]);
        }
        return NONE;
    }

    /**
     * The reason of a variable that is 1 in the candidate: literals of higher variables, all false in the candidate.
     * As long as they are, no assignment that is looked for has 0 there.
     */
    private void giveReasonsOfStart(int start) {
        for (int v = 0; v < VARIABLES; v++) {
            // To stay above start with a 0 where start has 1, a higher variable that start has at 0 must be 1.
            reasonYes[v] = HIGHEST & ~start & (-2 << v);
            reasonNo[v] = 0;
        }
    }

    /** A row that is false in the candidate, or NONE: of several the one whose lowest variable is highest. */
    private int falseRow(int candidate, int rows) {
        int chosen = NONE;
        int chosenLowest = 0;
        for (int row = 0; row < rows && row < ROWS; row++) {
            if (((yes[row] & candidate) | (no[row] & ~candidate)) == 0) {
                int variables = yes[row] | no[row];
                int lowest = variables & -variables;
                if (lowest == 0) {
                    return row;
                }
                if (lowest > chosenLowest) {
                    chosen = row;
                    chosenLowest = lowest;
                }
            }
        }
        return chosen;
    }

    /**
     * The next candidate, or NONE, by a clause that is false in this one. Its lowest variable goes from 0 to 1 if it
     * may; if it is 1 already, its reason takes its place in the clause (resolution), which then tells of higher ones.
     */
    private int leap(int candidate, int clauseYes, int clauseNo) {
        int restYes = clauseYes;
        int restNo = clauseNo;
        for (int v = 0; v < VARIABLES; v++) {
            int bit = 1 << v;
            if ((restYes & bit) != 0) {
                reasonYes[v] = restYes & ~bit;
                reasonNo[v] = restNo;
                return (candidate | bit) & -bit;
            }
            if ((restNo & bit) != 0) {
                restYes |= reasonYes[v];
                restNo = (restNo & ~bit) | reasonNo[v];
            }
        }
        return NONE;
    }
}
