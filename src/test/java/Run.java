/** One run of calls on a new object, each call written as text ("put -3") and held against the answer that is due. */
final class Run {
    private static final int CALL_LIMIT = 512;
    private static int wrong = 0;

    private final String name;
    private final ClauseYard yard = new ClauseYard();
    private int calls = 0;

    Run(String name) {
        this.name = name;
    }

    /** A call whose answer is held elsewhere: this one. */
    String made(String call) {
        calls++;
        if (calls > CALL_LIMIT) {
            complain("the test makes more calls than an object is promised for");
        }
        return answer(yard, call);
    }

    Run due(String call, String want) {
        String got = made(call);
        if (!got.equals(want)) {
            complain("call " + calls + ", " + call + ", answered " + got + ", due is " + want);
        }
        return this;
    }

    Run due(String call, int want) {
        return due(call, String.valueOf(want));
    }

    Run due(String call, boolean want) {
        return due(call, String.valueOf(want));
    }

    Run refused(String call, Class<? extends RuntimeException> by) {
        return due(call, by.getName());
    }

    /** What look tells, in the order of its argument. */
    Run state(int clauses, int level, int assumptions, int tape, int model) {
        return due("look 0", clauses).due("look 1", level).due("look 2", assumptions).due("look 3", tape)
            .due("look 4", model);
    }

    /** A clause of these literals comes behind the ones that are there. */
    Run clause(int before, int... literals) {
        for (int i = 0; i < literals.length; i++) {
            due("put " + literals[i], i + 1);
        }
        return due("add", before + 1);
    }

    void complain(String text) {
        wrong++;
        System.out.println(name + ": " + text);
    }

    static void end() {
        System.out.println(wrong == 0 ? "all answers are as due" : wrong + " answers are not as due");
        if (wrong != 0) {
            System.exit(1);
        }
    }

    static String answer(ClauseYard yard, String call) {
        String[] words = call.split(" ");
        int argument = words.length > 1 ? Integer.parseInt(words[1]) : 0;
        try {
            return plainAnswer(yard, words[0], argument);
        } catch (RuntimeException thrown) {
            return thrown.getClass().getName();
        }
    }

    private static String plainAnswer(ClauseYard yard, String method, int argument) {
        switch (method) {
            case "put": return String.valueOf(yard.put(argument));
            case "add": return String.valueOf(yard.add());
            case "open": return String.valueOf(yard.open());
            case "close": return String.valueOf(yard.close());
            case "assume": return String.valueOf(yard.assume(argument));
            case "free": return String.valueOf(yard.free());
            case "least": return String.valueOf(yard.least());
            case "next": return String.valueOf(yard.next());
            case "can": return String.valueOf(yard.can());
            case "forced": return String.valueOf(yard.forced(argument));
            case "blames": return String.valueOf(yard.blames(argument));
            case "count": return String.valueOf(yard.count(argument));
            case "value": return String.valueOf(yard.value(argument));
            case "look": return String.valueOf(yard.look(argument));
            default: throw new AssertionError("the test calls " + method);
        }
    }
}
