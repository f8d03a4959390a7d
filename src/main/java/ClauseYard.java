import java.util.NoSuchElementException;

/**
 * A yard of clauses over 18 variables, told by ../shared/DOC.md.
 *
 * A set of literals is held as two masks: "yes" for the literals v, "no" for the literals -v, bit v - 1 each.
 */
public final class ClauseYard {
    private static final int VARIABLES = 18;
    private static final int HIGHEST = (1 << VARIABLES) - 1;
    private static final int TAPE_LIMIT = 18;
    private static final int CLAUSE_LIMIT = 400;
    private static final int LEVEL_LIMIT = 40;
    private static final int ASSUMPTION_LIMIT = 18;
    private static final int COUNT_LIMIT = 64;
    private static final int NONE = -1;

    private final Search search = new Search();
    private final int[] clausesBelow = new int[LEVEL_LIMIT + 1];
    private final int[] assumptions = new int[ASSUMPTION_LIMIT];
    private int clauseCount;
    private int level;
    private int assumptionCount;
    private int tapeCount;
    private int tapeYes;
    private int tapeNo;
    private int model;

    public ClauseYard() {
        model = NONE;
    }

    public int put(int literal) throws IllegalArgumentException, IllegalStateException {
        if (!isLiteral(literal)) {
            throw new IllegalArgumentException("no literal");
        }
        if (tapeCount >= TAPE_LIMIT) {
            throw new IllegalStateException("the tape is full");
        }
        tapeYes |= yesMask(literal);
        tapeNo |= noMask(literal);
        tapeCount++;
        return tapeCount;
    }

    public int add() throws IllegalStateException {
        if (clauseCount >= CLAUSE_LIMIT) {
            throw new IllegalStateException("the yard is full");
        }
        search.write(clauseCount, tapeYes, tapeNo);
        clauseCount++;
        tapeCount = 0;
        tapeYes = 0;
        tapeNo = 0;
        model = NONE;
        return clauseCount;
    }

    public int open() throws IllegalStateException {
        if (level >= LEVEL_LIMIT) {
            throw new IllegalStateException("no level above this one");
        }
        level++;
        clausesBelow[level] = clauseCount;
        model = NONE;
        return level;
    }

    public int close() throws IllegalStateException {
        if (level <= 0 || level > LEVEL_LIMIT) {
            throw new IllegalStateException("no level is open");
        }
        int gone = clauseCount - clausesBelow[level];
        clauseCount = clausesBelow[level];
        level--;
        model = NONE;
        return gone;
    }

    public int assume(int literal) throws IllegalArgumentException, IllegalStateException {
        if (!isLiteral(literal)) {
            throw new IllegalArgumentException("no literal");
        }
        if (assumptionCount >= ASSUMPTION_LIMIT) {
            throw new IllegalStateException("too many assumptions");
        }
        assumptions[assumptionCount] = literal;
        assumptionCount++;
        model = NONE;
        return assumptionCount;
    }

    public int free() {
        int gone = assumptionCount;
        assumptionCount = 0;
        model = NONE;
        return gone;
    }

    public int least() {
        model = search.leastFrom(0, writeAssumptions(NONE));
        return model;
    }

    public int next() throws IllegalStateException {
        if (model == NONE) {
            throw new IllegalStateException("no model");
        }
        model = search.leastFrom(model + 1, writeAssumptions(NONE));
        return model;
    }

    public boolean can() {
        return isSatisfied(writeAssumptions(NONE));
    }

    public boolean forced(int literal) throws IllegalArgumentException {
        if (!isLiteral(literal)) {
            throw new IllegalArgumentException("no literal");
        }
        int rows = writeAssumptions(NONE);
        search.write(rows, yesMask(-literal), noMask(-literal));
        return !isSatisfied(rows + 1);
    }

    public boolean blames(int i) throws NoSuchElementException {
        if (i < 0 || i >= assumptionCount) {
            throw new NoSuchElementException("no such assumption");
        }
        return !isSatisfied(writeAssumptions(NONE)) && isSatisfied(writeAssumptions(i));
    }

    public int count(int n) throws IllegalArgumentException {
        if (n < 1 || n > COUNT_LIMIT) {
            throw new IllegalArgumentException("not 1 .. 64");
        }
        int rows = writeAssumptions(NONE);
        int found = 0;
        int start = 0;
        // Each step finds one at least.
        for (int step = 0; step < n && found < n; step++) {
            int good = search.leastFrom(start, rows);
            if (good == NONE) {
                return found;
            }
            found += search.foundInBlock();
            start = Search.nextBlock(good);
        }
        return Math.min(found, n);
    }

    public int value(int variable) throws IllegalArgumentException, IllegalStateException {
        if (variable < 1 || variable > VARIABLES) {
            throw new IllegalArgumentException("no such variable");
        }
        if (model == NONE) {
            throw new IllegalStateException("no model");
        }
        return (model >> (variable - 1)) & 1;
    }

    public int look(int what) throws IllegalArgumentException {
        switch (what) {
            case 0:
                return clauseCount;
            case 1:
                return level;
            case 2:
                return assumptionCount;
            case 3:
                return tapeCount;
            case 4:
                return model == NONE ? 0 : 1;
            default:
                throw new IllegalArgumentException("nothing to look at");
        }
    }

    private static boolean isLiteral(int literal) {
        return literal != 0 && literal >= -VARIABLES && literal <= VARIABLES;
    }

    private static int yesMask(int literal) {
        return literal > 0 ? 1 << (literal - 1) : 0;
    }

    private static int noMask(int literal) {
        return literal < 0 ? 1 << (-literal - 1) : 0;
    }

    /** Writes the assumptions, but for the one left out, as clauses of one literal behind the others: all rows. */
    private int writeAssumptions(int leftOut) {
        int rows = clauseCount;
        for (int i = 0; i < assumptionCount && i < ASSUMPTION_LIMIT; i++) {
            if (i != leftOut) {
                search.write(rows, yesMask(assumptions[i]), noMask(assumptions[i]));
                rows++;
            }
        }
        return rows;
    }

    private boolean isSatisfied(int rows) {
        return search.leastFrom(0, rows) != NONE;
    }

    /**
     * Clauses in rows, and the search for the least assignment that makes them true. It counts upwards by blocks of 64
     * assignments, which differ in the low variables alone and are looked at all at once, as the bits of a long; from a
     * block without a good assignment it learns how far it may leap.
     */
    private static final class Search {
        private static final int LOW_VARIABLES = 6;
        private static final int BLOCK = 1 << LOW_VARIABLES;
        private static final int BLOCKS = 1 << (VARIABLES - LOW_VARIABLES);
        private static final int HIGH = HIGHEST & -BLOCK;
        private static final long WHOLE_BLOCK = -1L;
        // The assignments of a block in which a low variable is 1.
        private static final long[] WHERE_ONE = {0xAAAAAAAAAAAAAAAAL, 0xCCCCCCCCCCCCCCCCL, 0xF0F0F0F0F0F0F0F0L,
            0xFF00FF00FF00FF00L, 0xFFFF0000FFFF0000L, 0xFFFFFFFF00000000L};
        // Behind the clauses there is room for all assumptions, the literal that forced denies, and the start's row.
        private static final int ROWS = CLAUSE_LIMIT + ASSUMPTION_LIMIT + 2;

        // A row's literals of high variables, and the assignments of a block in which its other literals make it true.
        private final int[] highYes = new int[ROWS];
        private final int[] highNo = new int[ROWS];
        private final long[] low = new long[ROWS];
        private final int[] reasonYes = new int[VARIABLES];
        private final int[] reasonNo = new int[VARIABLES];
        private int blamedYes;
        private int blamedNo;
        private long found;

        void write(int row, int yes, int no) {
            writeParts(row, yes & HIGH, no & HIGH, whereTrue(yes, no));
        }

        /** The least assignment from start on that makes the first rows true, or NONE. */
        int leastFrom(int start, int rows) {
            if (start > HIGHEST) {
                return NONE;
            }
            giveReasonsOfStart(start);
            // No assignment below start: where start's high variables at 0 all stay so, the low ones may not be less.
            writeParts(rows, HIGH & ~start, 0, WHOLE_BLOCK << (start & (BLOCK - 1)));
            long goodByLow = goodByLowAlone(rows + 1);
            int block = start & HIGH;
            // A leap always goes upwards, so there are no more steps than blocks.
            for (int step = 0; step < BLOCKS && block != NONE; step++) {
                found = goodInBlock(block, goodByLow, rows + 1);
                if (found != 0) {
                    return block + Long.numberOfTrailingZeros(found);
                }
                block = setByReasons(leap(block));
            }
            return NONE;
        }

        /** How many good assignments, from the start on, the block has in which the latest one was found. */
        int foundInBlock() {
            return Long.bitCount(found);
        }

        static int nextBlock(int assignment) {
            return (assignment & -BLOCK) + BLOCK;
        }

        private void writeParts(int row, int yesPart, int noPart, long lowPart) {
            if (row >= 0 && row < ROWS) {
                highYes[row] = yesPart;
                highNo[row] = noPart;
                low[row] = lowPart;
            }
        }

        private static long whereTrue(int yes, int no) {
            long where = 0;
            for (int v = 0; v < WHERE_ONE.length; v++) {
                if ((yes >> v & 1) != 0) {
                    where |= WHERE_ONE[v];
                }
                if ((no >> v & 1) != 0) {
                    where |= ~WHERE_ONE[v];
                }
            }
            return where;
        }

        /**
         * The reason of a high variable: literals of higher variables. Where all of them are false, no assignment that
         * is looked for has 0 at the variable. They are false in the block as long as the variable is 1 there.
         */
        private void giveReasonsOfStart(int start) {
            for (int v = LOW_VARIABLES; v < VARIABLES; v++) {
                // To stay above start with a 0 where start has 1, a higher variable that start has at 0 must be 1.
                reasonYes[v] = HIGHEST & ~start & (-2 << v);
                // Where start has 0 there is no reason yet: with the variable's own -v it is never all false at 0.
                reasonNo[v] = ~start & (1 << v);
            }
        }

        /** The assignments of any block that make true the rows without high variables, which have none to blame. */
        private long goodByLowAlone(int rows) {
            long good = WHOLE_BLOCK;
            for (int row = 0; row < rows && row < ROWS; row++) {
                if ((highYes[row] | highNo[row]) == 0) {
                    good &= low[row];
                }
            }
            return good;
        }

        /** The assignments of the block in which the rows are true; if there is none, also what is to blame for it. */
        private long goodInBlock(int block, long goodByLow, int rows) {
            long good = goodByLow;
            blamedYes = 0;
            blamedNo = 0;
            for (int row = 0; row < rows && row < ROWS && good != 0; row++) {
                boolean highFalse = ((highYes[row] & block) | (highNo[row] & ~block)) == 0;
                if (highFalse && (good & ~low[row]) != 0) {
                    if (low[row] == 0) {
                        // This row is to blame alone, and the fewer literals are blamed, the longer the leap.
                        blamedYes = 0;
                        blamedNo = 0;
                    }
                    good &= low[row];
                    blamedYes |= highYes[row];
                    blamedNo |= highNo[row];
                }
            }
            return good;
        }

        /**
         * The next block to look at, or NONE: one of the blamed literals, all false in this block, must become true.
         * Their lowest variable goes from 0 to 1 if it may; if it is 1 already, its reason takes its place among them
         * (resolution), which then tells of higher ones.
         */
        private int leap(int block) {
            int restYes = blamedYes;
            int restNo = blamedNo;
            for (int v = LOW_VARIABLES; v < VARIABLES; v++) {
                int bit = 1 << v;
                if ((restYes & bit) != 0) {
                    reasonYes[v] = restYes & ~bit;
                    reasonNo[v] = restNo;
                    return (block | bit) & -bit;
                }
                if ((restNo & bit) != 0) {
                    restYes |= reasonYes[v];
                    restNo = (restNo & ~bit) | reasonNo[v];
                }
            }
            return NONE;
        }

        /** This block or a later one, none with a good assignment between: known reasons save a look at the rows. */
        private int setByReasons(int block) {
            int later = block;
            for (int v = VARIABLES - 1; v >= LOW_VARIABLES && later != NONE; v--) {
                int bit = 1 << v;
                if ((((reasonYes[v] | bit) & later) | (reasonNo[v] & ~later)) == 0) {
                    later = (later | bit) & -bit;
                }
            }
            return later;
        }
    }
}
