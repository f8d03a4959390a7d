import java.util.ArrayList;
import java.util.Arrays;
import java.util.LinkedHashMap;
import java.util.List;
import java.util.Map;
import java.util.NoSuchElementException;
import java.util.Set;
import java.util.TreeSet;

/**
 * A call that throws changes nothing. For each kind of state: each call that must be refused there is made, and behind
 * it every sight of the object is held against PlainYard's, which was never told of the refused call.
 */
public final class RefusalsTest {
    private static final String ARGUMENT = IllegalArgumentException.class.getName();
    private static final String STATE = IllegalStateException.class.getName();
    private static final String ELEMENT = NoSuchElementException.class.getName();
    private static final int[] EXTREMES = {Integer.MAX_VALUE, Integer.MIN_VALUE};

    public static void main(String[] args) {
        for (Map.Entry<String, List<String>> state : states().entrySet()) {
            check(state.getKey(), state.getValue());
        }
        Run.end();
    }

    private static Map<String, List<String>> states() {
        Map<String, List<String>> states = new LinkedHashMap<>();
        states.put("new", calls());
        states.put("model", calls("put 3", "put -5", "add", "assume 2", "assume -4", "put 7", "put -8", "least",
            "next"));
        states.put("model in a level", calls("put 1", "put 6", "add", "open", "put -1", "put 18", "add", "assume 6",
            "put 2", "least", "next", "next"));
        states.put("two to blame", calls("put -1", "put -2", "add", "open", "put 5", "add", "open", "assume 1",
            "assume 3", "assume 2", "put 9", "least"));
        states.put("an empty clause", calls("assume 4", "open", "add", "put -4", "put 4", "can"));
        states.put("next in vain", nextInVain());
        states.put("highest model", highestModel());
        states.put("full tape", fullTape(calls("assume 17", "open", "put 1", "put 2", "add"), "least"));
        states.put("full tape, no model", fullTape(calls("put 1", "add", "assume -1"), "least"));
        states.put("400 clauses", manyClauses());
        states.put("LEVEL 40", manyLevels());
        states.put("18 assumptions", manyAssumptions(-5, "least"));
        states.put("18 assumptions, one to blame", manyAssumptions(5, "can"));
        return states;
    }

    private static List<String> calls(String... made) {
        return new ArrayList<>(Arrays.asList(made));
    }

    private static List<String> nextInVain() {
        List<String> made = calls("put 18", "add", "put 3");
        for (int v = 1; v <= 17; v++) {
            made.add("assume " + -v);
        }
        made.addAll(calls("least", "next"));
        return made;
    }

    private static List<String> highestModel() {
        List<String> made = calls("put 1", "add", "put -3");
        for (int v = 2; v <= 18; v++) {
            made.add("assume " + v);
        }
        made.add("least");
        return made;
    }

    private static List<String> fullTape(List<String> before, String search) {
        List<String> made = new ArrayList<>(before);
        for (int i = 0; i < 18; i++) {
            made.add("put " + (i % 3 == 0 ? 12 : 11));
        }
        made.add(search);
        return made;
    }

    /** So many clauses have empty ones among them: 512 calls do not suffice to put a literal on the tape for each. */
    private static List<String> manyClauses() {
        List<String> made = calls("put 2", "put 3", "add", "assume -2", "open");
        for (int i = 0; i < 399; i++) {
            made.add("add");
        }
        made.addAll(calls("put 8", "put -9"));
        return made;
    }

    private static List<String> manyLevels() {
        List<String> made = calls("put 2", "put 3", "add", "assume -2");
        for (int i = 1; i <= 40; i++) {
            made.add("open");
            if (i % 10 == 0) {
                made.addAll(calls("put " + i / 10, "put 10", "add"));
            }
        }
        made.addAll(calls("put 8", "least", "next"));
        return made;
    }

    private static List<String> manyAssumptions(int last, String search) {
        List<String> made = calls("put 1", "add", "open", "put -5", "add", "put 9");
        for (int i = 1; i <= 17; i++) {
            made.add("assume " + (i % 4 == 0 ? -6 : 7));
        }
        made.add("assume " + last);
        made.add(search);
        return made;
    }

    private static void check(String name, List<String> history) {
        Map<String, String> refused = refusedIn(history);
        for (List<String> sight : sights(history)) {
            List<String> due = dueBehind(history, sight);
            for (String call : refused.keySet()) {
                follow(name + ", behind " + call, history, Map.of(call, refused.get(call)), sight, due);
            }
            follow(name + ", behind all refused calls", history, refused, sight, due);
        }
    }

    private static void follow(String name, List<String> history, Map<String, String> refused, List<String> sight,
            List<String> due) {
        Run run = new Run(name);
        for (String call : history) {
            run.made(call);
        }
        for (Map.Entry<String, String> call : refused.entrySet()) {
            run.due(call.getKey(), call.getValue());
        }
        for (int i = 0; i < sight.size(); i++) {
            run.due(sight.get(i), due.get(i));
        }
    }

    private static List<String> dueBehind(List<String> history, List<String> sight) {
        PlainYard plain = plainBehind(history);
        List<String> due = new ArrayList<>();
        for (String call : sight) {
            due.add(plain.answer(call));
        }
        return due;
    }

    private static PlainYard plainBehind(List<String> history) {
        PlainYard plain = new PlainYard();
        for (String call : history) {
            plain.answer(call);
        }
        return plain;
    }

    /** Each call that must throw in this state, with what it throws. */
    private static Map<String, String> refusedIn(List<String> history) {
        PlainYard plain = plainBehind(history);
        int assumptions = number(plain, 2);
        Map<String, String> refused = new LinkedHashMap<>();
        for (String method : calls("put", "assume", "forced")) {
            refuse(refused, method, ARGUMENT, 0, 19, -19);
        }
        refuse(refused, "count", ARGUMENT, 0, 65);
        refuse(refused, "value", ARGUMENT, 0, 19, -1);
        refuse(refused, "look", ARGUMENT, -1, 5);
        refuse(refused, "blames", ELEMENT, -1, assumptions);
        if (number(plain, 3) == 18) {
            refused.put("put 1", STATE);
            refused.put("put -11", STATE);
        }
        if (number(plain, 0) == 400) {
            refused.put("add", STATE);
        }
        if (number(plain, 1) == 40) {
            refused.put("open", STATE);
        }
        if (number(plain, 1) == 0) {
            refused.put("close", STATE);
        }
        if (assumptions == 18) {
            refused.put("assume 1", STATE);
            refused.put("assume -7", STATE);
        }
        if (number(plain, 4) == 0) {
            refused.put("next", STATE);
            refused.put("value 1", STATE);
            refused.put("value 18", STATE);
        }
        return refused;
    }

    private static int number(PlainYard plain, int what) {
        return Integer.parseInt(plain.answer("look " + what));
    }

    private static void refuse(Map<String, String> refused, String method, String by, int... wrongs) {
        for (int wrong : wrongs) {
            refused.put(method + " " + wrong, by);
        }
        for (int wrong : EXTREMES) {
            refused.put(method + " " + wrong, by);
        }
    }

    /** Runs of calls that together show all that an object holds; each comes first behind a refused call once. */
    private static List<List<String>> sights(List<String> history) {
        List<List<String>> sights = new ArrayList<>();
        List<String> looks = calls("look 0", "look 1", "look 2", "look 3", "look 4");
        sights.add(joined(looks, numbered("value", 1, 18), calls("look 4")));
        sights.add(joined(calls("next"), looks, calls("next", "value 1", "value 18")));
        sights.add(joined(calls("least"), looks, calls("value 1", "value 18", "next", "next", "next")));
        sights.add(joined(calls("can"), looks, calls("next")));
        sights.add(joined(numbered("forced", -18, -1), numbered("forced", 1, 18), calls("look 4", "next")));
        sights.add(joined(numbered("blames", 0, 17), calls("look 4", "next")));
        sights.add(joined(calls("count 64", "count 1", "count 2", "look 4", "next")));
        sights.add(joined(calls("put 9"), looks, calls("add", "least", "next", "next", "forced 9")));
        sights.add(joined(calls("add"), looks, calls("least", "next", "forced 7", "forced -8")));
        sights.add(joined(calls("open"), looks, calls("put 13", "add", "least", "close", "least", "next")));
        sights.add(joined(calls("assume 13"), looks, calls("least", "next"), numbered("blames", 0, 17)));
        sights.add(joined(calls("free"), looks, calls("least", "next", "next", "assume -3", "least")));
        sights.add(joined(allLevelsDown(history), looks, calls("least", "next", "free", "least", "add", "least")));
        sights.add(tapeLaidOpen(history));
        return sights;
    }

    private static List<String> allLevelsDown(List<String> history) {
        int level = number(plainBehind(history), 1);
        List<String> down = calls();
        for (int i = 0; i <= level; i++) {
            down.add("close");
        }
        return down;
    }

    /** The tape becomes a clause; then each of its literals is the last that can make the clause true. */
    private static List<String> tapeLaidOpen(List<String> history) {
        Set<Integer> tape = new TreeSet<>();
        for (String call : history.subList(history.lastIndexOf("add") + 1, history.size())) {
            if (call.startsWith("put ")) {
                tape.add(Integer.parseInt(call.substring(4)));
            }
        }
        List<String> made = calls("free", "add", "look 0", "look 3", "least");
        for (int literal : tape) {
            made.add("free");
            for (int other : tape) {
                if (other != literal) {
                    made.add("assume " + -other);
                }
            }
            made.addAll(calls("can", "forced " + literal, "assume " + -literal, "can"));
        }
        return made;
    }

    @SafeVarargs
    private static List<String> joined(List<String>... parts) {
        List<String> all = new ArrayList<>();
        for (List<String> part : parts) {
            all.addAll(part);
        }
        return all;
    }

    private static List<String> numbered(String method, int from, int to) {
        List<String> made = new ArrayList<>();
        for (int i = from; i <= to; i++) {
            made.add(method + " " + i);
        }
        return made;
    }
}
