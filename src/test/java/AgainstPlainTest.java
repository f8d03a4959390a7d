import java.util.Random;

/** Long runs of mixed calls, each answer held against PlainYard's. The seeds are fixed: every run is the same again. */
public final class AgainstPlainTest {
    private static final int CALLS = 512;
    private static final int RUNS_OF_A_KIND = 12;
    // How often each call comes, by kind of run.
    private static final String[] NAMES = {"put", "add", "open", "close", "assume", "free", "least", "next", "can",
        "forced", "blames", "count", "value", "look"};
    private static final int[][] OFTEN = {
        {8, 4, 2, 2, 2, 1, 3, 6, 2, 3, 3, 2, 3, 3},
        {40, 12, 1, 1, 1, 1, 3, 8, 2, 4, 2, 2, 2, 1},
        {30, 1, 1, 1, 1, 1, 1, 1, 1, 1, 1, 1, 1, 1},
        {2, 60, 8, 2, 1, 1, 1, 1, 1, 1, 1, 1, 1, 1},
        {6, 2, 20, 8, 1, 1, 1, 1, 1, 1, 1, 1, 1, 1},
        {9, 3, 1, 1, 12, 1, 2, 3, 2, 4, 12, 2, 1, 1},
    };
    private static final int MANY_EMPTY = 3;
    private static final int[] EXTREMES = {0, -1, 18, -18, 19, -19, 64, 65, Integer.MAX_VALUE, Integer.MIN_VALUE};
    // Found by trying: the least good assignment is among the last 64, and the search leaps over none before them.
    private static final int[][][] LONG_SEARCHES = {
        {{9, -7}, {2, 7, 8}, {7, -8}, {-3}, {-1, 16, -7}, {-7, -5}, {-8, 14}, {-7, 12}, {-1, 10}, {-9, 5, 11},
            {5, 13}, {-15, 1}, {8, -10, 3}, {17, 5}, {-9, 18, 3}, {3, 15}},
        {{-7, 12, -8}, {7, -5, -6}, {13, -10, -9, -7}, {-7, 10}, {-5, 15, -9}, {8, -6}, {-6, 18, -13}, {-11, 5},
            {-8, -5, 16, -8}, {9, -5}, {-7, 14}, {-1}, {-15, 6, -9}, {-6, 17}, {1, 11}},
    };

    public static void main(String[] args) {
        for (int kind = 0; kind < OFTEN.length; kind++) {
            for (int seed = 0; seed < RUNS_OF_A_KIND; seed++) {
                mixedRun(kind, seed);
            }
        }
        for (int clauses = 40; clauses <= 110; clauses += 5) {
            crowdedRun(clauses);
        }
        for (int[][] clauses : LONG_SEARCHES) {
            longSearch(clauses);
        }
        Run.end();
    }

    private static void mixedRun(int kind, int seed) {
        Random random = new Random(1000L * kind + seed);
        int variables = seed % 3 == 0 ? 18 : 3 + random.nextInt(10);
        Run run = new Run("mixed run " + kind + "." + seed);
        PlainYard plain = new PlainYard();
        for (int i = 0; i < CALLS; i++) {
            String call = someCall(random, OFTEN[kind], variables);
            if (call.equals("add") && kind != MANY_EMPTY && isShort(plain) && random.nextInt(60) != 0) {
                call = "put " + literal(random, variables);
            }
            due(run, plain, call, random);
        }
    }

    /** Short clauses soon leave no good assignment, and then there is little to tell answers apart. */
    private static boolean isShort(PlainYard plain) {
        return Integer.parseInt(plain.answer("look 3")) < 2;
    }

    /** Without a model next has nothing to start from: mostly least comes in its place. */
    private static void due(Run run, PlainYard plain, String call, Random random) {
        boolean vain = call.equals("next") && plain.answer("look 4").equals("0") && random.nextInt(4) != 0;
        String made = vain ? "least" : call;
        run.due(made, plain.answer(made));
    }

    private static String someCall(Random random, int[] often, int variables) {
        int sum = 0;
        for (int weight : often) {
            sum += weight;
        }
        int left = random.nextInt(sum);
        int at = 0;
        while (left >= often[at]) {
            left -= often[at];
            at++;
        }
        return NAMES[at] + argument(random, NAMES[at], variables);
    }

    private static String argument(Random random, String name, int variables) {
        boolean extreme = random.nextInt(25) == 0;
        int odd = EXTREMES[random.nextInt(EXTREMES.length)];
        switch (name) {
            case "put", "assume", "forced":
                return " " + (extreme ? odd : literal(random, variables));
            case "blames":
                return " " + (extreme ? odd : random.nextInt(6));
            case "count":
                return " " + (extreme ? odd : 1 + random.nextInt(64));
            case "value":
                return " " + (extreme ? odd : 1 + random.nextInt(18));
            case "look":
                return " " + (extreme ? odd : random.nextInt(5));
            default:
                return "";
        }
    }

    private static int literal(Random random, int variables) {
        // Variables from both ends, so that low and high ones quarrel.
        int v = 1 + random.nextInt(variables);
        int variable = random.nextBoolean() ? v : 19 - v;
        return random.nextBoolean() ? variable : -variable;
    }

    /** Many clauses of three literals: few good assignments or none, which is where a search works hardest. */
    private static void crowdedRun(int clauses) {
        Random random = new Random(clauses);
        Run run = new Run("crowded run " + clauses);
        PlainYard plain = new PlainYard();
        int calls = 0;
        for (int i = 0; i < 3 * clauses; i++) {
            String put = "put " + literal(random, 18);
            run.due(put, plain.answer(put));
            calls++;
            if (i % 3 == 2) {
                run.due("add", plain.answer("add"));
                calls++;
            }
        }
        for (; calls < CALLS; calls++) {
            String call = someCall(random, new int[] {0, 0, 0, 0, 2, 1, 3, 12, 2, 6, 4, 4, 2, 1}, 18);
            due(run, plain, call, random);
        }
    }

    private static void longSearch(int[][] clauses) {
        Run run = new Run("long search");
        PlainYard plain = new PlainYard();
        for (int[] clause : clauses) {
            for (int literal : clause) {
                run.due("put " + literal, plain.answer("put " + literal));
            }
            run.due("add", plain.answer("add"));
        }
        for (String call : new String[] {"can", "least", "next", "next", "count 64", "forced 18", "forced 7"}) {
            run.due(call, plain.answer(call));
        }
    }
}
