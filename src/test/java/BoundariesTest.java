import java.util.NoSuchElementException;

/**
 * Each sentence of the document that names a boundary case has a run of its own here (or a few), named by the sentence.
 * What a refused call leaves as it was is held at length by RefusalsTest.
 */
public final class BoundariesTest {
    private static final Class<IllegalArgumentException> ARGUMENT = IllegalArgumentException.class;
    private static final Class<IllegalStateException> STATE = IllegalStateException.class;
    private static final Class<NoSuchElementException> ELEMENT = NoSuchElementException.class;
    private static final int HIGHEST = 262143;
    private static final int[] NO_LITERALS = {0, 19, -19, 20, -20, 32, -32, 33, 50, -50, 256, 65537, Integer.MAX_VALUE,
        -Integer.MAX_VALUE, Integer.MIN_VALUE};

    public static void main(String[] args) {
        calls();
        variables();
        clauseTerms();
        limitsOfTerms();
        modelTerms();
        firstListedException();
        newObject();
        put();
        add();
        open();
        close();
        assume();
        free();
        least();
        next();
        can();
        forced();
        blames();
        count();
        value();
        look();
        Run.end();
    }

    // What it is

    private static void calls() {
        Run searches = new Run("512 calls, the last one is a search").due("least", 0);
        for (int i = 1; i <= 511; i++) {
            searches.due("next", i);
        }
        Run levels = new Run("512 calls, levels again and again");
        for (int i = 1; i <= 128; i++) {
            levels.due("open", 1).due("add", 1).due("close", 1).due("can", true);
        }
        Run clauses = new Run("512 calls, most of them for clauses");
        for (int i = 0; i < 127; i++) {
            clauses.clause(i, 1 + i % 2, 3 + i % 16, 18 - i % 16);
        }
        clauses.due("look 0", 127).due("least", 3).due("value 2", 1).due("next", 7);
        Run refused = new Run("512 calls, most of them refused");
        for (int i = 1; i <= 511; i++) {
            refused.refused("close", STATE);
        }
        refused.due("least", 0);
    }

    // Terms

    private static void variables() {
        for (int v = 1; v <= 18; v++) {
            int bit = 1 << (v - 1);
            Run one = new Run("bit v - 1 is what variable v has, v = " + v).due("assume " + v, 1).due("least", bit);
            for (int w = 1; w <= 18; w++) {
                one.due("value " + w, w == v ? 1 : 0);
            }
            Run yes = new Run("v is true if variable v is 1, v = " + v).clause(0, v);
            yes.due("least", bit).due("forced " + v, true).due("forced " + -v, false).due("assume " + -v, 1);
            yes.due("can", false);
            Run no = new Run("-v is true if it is 0, v = " + v).clause(0, -v).due("least", 0);
            no.due("forced " + -v, true).due("forced " + v, false).due("assume " + v, 1).due("can", false);
        }
    }

    private static void clauseTerms() {
        new Run("a clause is a set: a literal twice is there once").clause(0, 3, 3).due("least", 4)
            .due("forced 3", true);
        new Run("a clause is a set: the order is free").clause(0, 18, 2, -1).due("assume 1", 1).due("assume -18", 2)
            .due("least", 3);
        new Run("a clause of both literals is always true").clause(0, 18, -18).clause(1, -1, 1).due("least", 0)
            .due("next", 1).due("forced 18", false).due("forced -18", false).due("forced 1", false)
            .due("forced -1", false);
        Run none = new Run("a clause is true if one of its literals is: of 18 none is");
        Run last = new Run("a clause is true if one of its literals is: of 18 one is");
        for (int v = 1; v <= 18; v++) {
            none.due("put " + v, v);
            last.due("put " + v, v);
        }
        none.due("add", 1);
        last.due("add", 1);
        for (int v = 1; v <= 17; v++) {
            none.due("assume " + -v, v);
            last.due("assume " + -v, v);
        }
        none.due("assume -18", 18).due("can", false);
        last.due("can", true).due("least", 131072).due("next", -1);
        new Run("an empty clause never is true").due("add", 1).due("can", false).due("least", -1).due("count 64", 0)
            .due("forced 1", true).due("forced -1", true);
        new Run("an empty clause never is true, beside others and under assumptions").clause(0, 1, 2).due("add", 2)
            .clause(2, 3).due("assume 1", 1).due("can", false).due("least", -1).due("blames 0", false);
        new Run("an empty clause never is true, until it goes").due("open", 1).due("add", 1).due("least", -1)
            .due("close", 1).due("least", 0);
    }

    private static void limitsOfTerms() {
        Run tape = new Run("the tape has at most 18 literals, each put counted").due("look 3", 0);
        for (int i = 1; i <= 18; i++) {
            tape.due("put 4", i).due("look 3", i);
        }
        tape.refused("put 4", STATE).due("look 3", 18);
        Run clauses = new Run("at most 400 clauses, none at first").due("look 0", 0);
        for (int i = 1; i <= 400; i++) {
            clauses.due("add", i);
        }
        clauses.due("look 0", 400).refused("add", STATE).due("look 0", 400);
        Run levels = new Run("LEVEL is 0 at first, 40 at most").due("look 1", 0);
        for (int i = 1; i <= 40; i++) {
            levels.due("open", i).due("look 1", i);
        }
        levels.refused("open", STATE).due("look 1", 40);
        Run assumptions = new Run("at most 18 assumptions, none at first").due("look 2", 0);
        for (int i = 1; i <= 18; i++) {
            assumptions.due("assume 4", i).due("look 2", i);
        }
        assumptions.refused("assume 4", STATE).due("look 2", 18);
        new Run("a clause belongs to the level at which it was added, not put").due("put 2", 1).due("open", 1)
            .due("add", 1).due("put 3", 1).due("close", 1).due("add", 1).due("least", 4).due("open", 1)
            .due("close", 0).due("least", 4);
        new Run("assumptions are in the order in which they were made").due("assume 9", 1).due("assume 2", 2)
            .due("assume -9", 3).due("assume 1", 4).due("blames 0", true).due("blames 1", false)
            .due("blames 2", true).due("blames 3", false);
        new Run("good: all clauses and all assumptions are true").clause(0, 1, 2).due("assume -1", 1)
            .due("assume 18", 2).due("least", 131074).due("next", 131078);
    }

    private static void modelTerms() {
        withoutModel(new Run("no model at first"));
        withoutModel(new Run("no model behind add").due("least", 0).due("put 1", 1).due("add", 1));
        withoutModel(new Run("no model behind add of an empty clause").due("least", 0).due("add", 1));
        withoutModel(new Run("no model behind open").due("least", 0).due("open", 1));
        withoutModel(new Run("no model behind close").due("open", 1).due("put 1", 1).due("add", 1).due("least", 1)
            .due("close", 1));
        withoutModel(new Run("no model behind close of a level without clauses").due("open", 1).due("least", 0)
            .due("close", 0));
        withoutModel(new Run("no model behind assume").due("least", 0).due("assume -1", 1));
        withoutModel(new Run("no model behind assume of what is there").due("assume 2", 1).due("least", 2)
            .due("assume 2", 2));
        withoutModel(new Run("no model behind free").due("assume 1", 1).due("least", 1).due("free", 1));
        withoutModel(new Run("no model behind free without assumptions").due("least", 0).due("free", 0));
        withoutModel(new Run("no model if the latest search found none").due("add", 1).due("least", -1));
        new Run("the model is found latest: by least behind next").due("least", 0).due("next", 1).due("next", 2)
            .due("least", 0).due("value 2", 0).due("next", 1);
        new Run("the model is found latest: by next behind least").due("least", 0).due("next", 1).due("value 1", 1)
            .due("value 2", 0).due("next", 2).due("value 1", 0).due("value 2", 1);
        new Run("put leaves the model").due("least", 0).due("next", 1).due("put 5", 1).due("look 4", 1)
            .due("value 1", 1).due("next", 2);
    }

    private static void withoutModel(Run run) {
        run.due("look 4", 0).refused("next", STATE).refused("value 1", STATE).refused("value 18", STATE)
            .due("look 4", 0);
    }

    private static void firstListedException() {
        Run tape = new Run("of several exceptions the first: no literal on a full tape");
        Run assumptions = new Run("of several exceptions the first: no literal beside 18 assumptions");
        for (int i = 1; i <= 18; i++) {
            tape.due("put " + i, i);
            assumptions.due("assume " + i, i);
        }
        Run model = new Run("of several exceptions the first: no such variable and no model");
        for (int wrong : NO_LITERALS) {
            tape.refused("put " + wrong, ARGUMENT);
            assumptions.refused("assume " + wrong, ARGUMENT);
            model.refused("value " + wrong, ARGUMENT);
        }
        tape.refused("put 1", STATE);
        assumptions.refused("assume 1", STATE);
        model.refused("value 1", STATE);
    }

    // Promises 1 to 15

    private static void newObject() {
        new Run("1 no clauses, level 0").state(0, 0, 0, 0, 0);
        new Run("1 no clauses: all assignments are good").due("can", true).due("count 64", 64).due("least", 0);
        new Run("1 level 0: nothing to close").refused("close", STATE);
        new Run("1 no clauses: the first to come is one").due("add", 1);
    }

    private static void put() {
        for (int wrong : NO_LITERALS) {
            new Run("2 " + wrong + " is no literal").refused("put " + wrong, ARGUMENT).due("look 3", 0)
                .due("put 1", 1);
        }
        for (int v = 1; v <= 18; v++) {
            new Run("2 " + v + " is a literal, and the opposite too").due("put " + v, 1).due("put " + -v, 2);
        }
        Run full = new Run("2 the tape takes the 18th literal and not the 19th");
        for (int i = 1; i <= 17; i++) {
            full.due("put 18", i);
        }
        full.due("put 2", 18);
        for (int v = 1; v <= 18; v++) {
            full.refused("put " + v, STATE).refused("put " + -v, STATE);
        }
        full.due("look 3", 18).due("add", 1).due("assume -18", 1).due("least", 2);
        full.due("put 1", 1).due("look 3", 1);
    }

    private static void add() {
        new Run("3 the tape is used up").due("put 1", 1).due("put 2", 2).due("add", 1).due("look 3", 0).due("put 3", 1)
            .due("add", 2).due("least", 5);
        new Run("3 the tape is used up: the next clause has none of it").clause(0, 1).due("add", 2).due("can", false);
        Run fullTape = new Run("3 the tape is used up, a full one too");
        for (int i = 1; i <= 18; i++) {
            fullTape.due("put " + -i, i);
        }
        fullTape.due("add", 1).due("look 3", 0).due("put 1", 1);
        new Run("3 an empty tape is a clause too").due("add", 1).due("look 0", 1).due("look 3", 0).due("add", 2)
            .due("look 0", 2);
        Run full = new Run("3 the 400th clause comes, the 401st does not");
        for (int i = 1; i <= 399; i++) {
            full.due("add", i);
        }
        full.due("put 3", 1).due("put -4", 2).due("add", 400);
        full.refused("add", STATE).due("put 7", 1).refused("add", STATE).due("look 0", 400).due("look 3", 1);
        Run again = new Run("3 behind close there is room for clauses again").due("open", 1);
        for (int i = 1; i <= 400; i++) {
            again.due("add", i);
        }
        again.due("put 7", 1).refused("add", STATE).due("close", 400).due("add", 1).due("least", 64);
    }

    private static void open() {
        Run run = new Run("4 LEVEL 40 comes, 41 does not");
        for (int i = 1; i <= 40; i++) {
            run.due("open", i);
        }
        run.refused("open", STATE).refused("open", STATE).due("look 1", 40);
        run.clause(0, 1).due("look 0", 1).due("close", 1).due("look 1", 39).due("open", 40).refused("open", STATE);
        new Run("4 open leaves clauses, assumptions and the tape").clause(0, 1).due("assume 2", 1).due("put 3", 1)
            .due("open", 1).state(1, 1, 1, 1, 0).due("least", 3);
    }

    private static void close() {
        new Run("5 LEVEL 0 does not close").refused("close", STATE).clause(0, 1).refused("close", STATE)
            .state(1, 0, 0, 0, 0).due("least", 1).refused("close", STATE).due("look 4", 1).due("value 1", 1);
        new Run("5 LEVEL 0 does not close, behind others that did").due("open", 1).due("open", 2).due("close", 0)
            .due("close", 0).refused("close", STATE).due("look 1", 0);
        new Run("5 a level without clauses, beside clauses of others").clause(0, 1).due("open", 1).clause(1, 2)
            .due("open", 2).due("close", 0).state(2, 1, 0, 0, 0).due("least", 3);
        new Run("5 a level without clauses, between two that have some").due("open", 1).clause(0, 1).due("open", 2)
            .due("open", 3).clause(1, 2).clause(2, 3).due("close", 2).due("look 0", 1).due("close", 0)
            .due("look 0", 1).due("close", 1).due("look 0", 0);
        new Run("5 all clauses of this level go, also those from behind a higher one").due("open", 1).clause(0, 1)
            .due("open", 2).clause(1, 2).due("close", 1).clause(1, 3).due("least", 5).due("close", 2)
            .due("look 0", 0).due("least", 0);
        new Run("5 all clauses of this level go, those of level 0 stay").clause(0, 5).due("open", 1).clause(1, 1)
            .due("close", 1).due("look 0", 1).due("least", 16);
        new Run("5 clauses go, the tape and the assumptions stay").due("open", 1).clause(0, 1).due("put 5", 1)
            .due("assume 6", 1).due("close", 1).state(0, 0, 1, 1, 0).due("add", 1).due("least", 48);
        Run high = new Run("5 LEVEL is one less, from 40 to 0");
        for (int i = 1; i <= 40; i++) {
            high.due("open", i).due("add", i);
        }
        for (int i = 39; i >= 0; i--) {
            high.due("can", false).due("close", 1).due("look 1", i).due("look 0", i);
        }
        high.refused("close", STATE).due("can", true);
    }

    private static void assume() {
        for (int wrong : NO_LITERALS) {
            new Run("6 " + wrong + " is no literal").refused("assume " + wrong, ARGUMENT).due("look 2", 0)
                .due("least", 0);
        }
        for (int v = 1; v <= 18; v++) {
            new Run("6 " + v + " is a literal, and the opposite too").due("assume " + v, 1).due("assume " + -v, 2);
        }
        Run full = new Run("6 the 18th assumption comes, the 19th does not");
        for (int i = 1; i <= 17; i++) {
            full.due("assume 3", i);
        }
        full.due("assume 18", 18);
        for (int v = 1; v <= 18; v++) {
            full.refused("assume " + v, STATE).refused("assume " + -v, STATE);
        }
        full.due("look 2", 18).due("least", 131076).due("next", 131077);
        full.due("free", 18).due("assume 1", 1);
    }

    private static void free() {
        new Run("7 without assumptions").due("free", 0).state(0, 0, 0, 0, 0).due("free", 0);
        new Run("7 with one").due("assume -1", 1).due("free", 1).due("look 2", 0).due("free", 0);
        Run full = new Run("7 with 18");
        for (int i = 1; i <= 18; i++) {
            full.due("assume " + i, i);
        }
        full.due("least", HIGHEST).due("free", 18).due("look 2", 0).due("least", 0).refused("blames 0", ELEMENT);
        new Run("7 all assumptions go, clauses and tape and LEVEL stay").due("open", 1).clause(0, 2).due("put 3", 1)
            .due("assume 1", 1).due("free", 1).state(1, 1, 0, 1, 0).due("least", 2);
        new Run("7 old assumptions do not come back").due("assume 1", 1).due("assume -1", 2).due("free", 2)
            .due("assume 2", 1).due("least", 2).due("assume 3", 2).due("least", 6);
    }

    private static void least() {
        new Run("8 -1 without one, by clauses").clause(0, 18).clause(1, -18).due("least", -1).due("look 4", 0)
            .due("least", -1);
        new Run("8 -1 without one, by assumptions").due("assume 1", 1).due("assume -1", 2).due("least", -1)
            .due("look 4", 0);
        new Run("8 -1 without one, by both").clause(0, 7).due("assume -7", 1).due("least", -1).due("look 4", 0);
        new Run("8 the lowest assignment").clause(0, -18).clause(1, -1).due("least", 0).due("look 4", 1)
            .due("value 1", 0).due("value 18", 0);
        Run lowest = new Run("8 the lowest assignment alone");
        Run highest = new Run("8 the highest assignment alone");
        Run below = new Run("8 the one below the highest, alone");
        for (int v = 1; v <= 18; v++) {
            lowest.clause(v - 1, -v);
            highest.clause(v - 1, v);
            below.clause(v - 1, v == 1 ? -1 : v);
        }
        lowest.due("least", 0).due("look 4", 1).due("next", -1);
        highest.due("least", HIGHEST).due("look 4", 1).due("value 1", 1).due("value 18", 1).due("count 64", 1);
        below.due("least", HIGHEST - 1).due("value 1", 0).due("value 18", 1).due("next", -1);
        new Run("8 the least of two").clause(0, 18, 1).clause(1, -18, -1).due("least", 1).due("value 18", 0);
    }

    private static void next() {
        new Run("9 no model at all").refused("next", STATE).due("look 4", 0);
        new Run("9 can, forced, blames and count find no model for it").due("assume 1", 1).due("can", true)
            .due("forced 1", true).due("blames 0", false).due("count 1", 1).refused("next", STATE)
            .due("look 4", 0).refused("value 1", STATE);
        new Run("9 no model behind a least in vain").due("add", 1).due("least", -1).refused("next", STATE);
        Run one = new Run("9 -1 without one above, behind the lowest assignment");
        Run highest = new Run("9 behind the highest assignment");
        for (int v = 1; v <= 18; v++) {
            one.due("assume " + -v, v);
            if (v > 1) {
                highest.due("assume " + v, v - 1);
            }
        }
        one.due("least", 0).due("next", -1).due("look 4", 0).refused("next", STATE).refused("value 1", STATE);
        one.due("least", 0).due("look 4", 1);
        highest.due("least", HIGHEST - 1).due("next", HIGHEST).due("look 4", 1).due("value 1", 1).due("next", -1);
        highest.due("look 4", 0).refused("next", STATE).refused("value 1", STATE).due("can", true);
        highest.due("least", HIGHEST - 1).due("next", HIGHEST);
        new Run("9 above the model, not at it").clause(0, 1).due("least", 1).due("next", 3).due("next", 5);
        new Run("9 the least above, over bits that fall back to 0").clause(0, -18, -1).due("assume -17", 1)
            .due("least", 0).due("next", 1).due("next", 2).due("next", 3).due("next", 4);
        Run carry = new Run("9 the least above, with a carry to the highest variable").clause(0, 18, 1);
        for (int v = 2; v <= 17; v++) {
            carry.due("assume " + v, v - 1);
        }
        carry.due("least", 131071).due("next", 262142).due("next", HIGHEST).due("next", -1);
    }

    private static void can() {
        new Run("10 without clauses and assumptions").due("can", true);
        new Run("10 without a good assignment").clause(0, 18).clause(1, -18).due("can", false);
        new Run("10 without a good assignment, by assumptions").due("assume -18", 1).due("assume 18", 2)
            .due("can", false);
        Run highest = new Run("10 the highest one alone");
        for (int v = 1; v <= 18; v++) {
            highest.due("assume " + v, v);
        }
        highest.due("can", true).clause(0, -18).due("can", false);
        new Run("10 the model stays").due("least", 0).due("next", 1).due("can", true).due("look 4", 1)
            .due("value 1", 1).due("next", 2);
        new Run("10 the model stays none, with a good assignment").due("can", true).due("look 4", 0);
        new Run("10 the model stays none, without a good assignment").due("add", 1).due("can", false)
            .due("look 4", 0);
    }

    private static void forced() {
        for (int wrong : NO_LITERALS) {
            new Run("11 " + wrong + " is no literal").refused("forced " + wrong, ARGUMENT).due("can", true);
            new Run("11 " + wrong + " is no literal, also without a good assignment").due("add", 1)
                .refused("forced " + wrong, ARGUMENT);
        }
        Run clauses = new Run("11 there is no good assignment, by clauses").due("add", 1);
        Run assumptions = new Run("11 there is no good assignment, by assumptions").due("assume 5", 1)
            .due("assume -5", 2);
        Run free = new Run("11 all assignments are good");
        Run highest = new Run("11 only the highest one is good");
        for (int v = 1; v <= 18; v++) {
            clauses.due("forced " + v, true).due("forced " + -v, true);
            assumptions.due("forced " + v, true).due("forced " + -v, true);
            free.due("forced " + v, false).due("forced " + -v, false);
            highest.due("assume " + v, v);
        }
        for (int v = 1; v <= 18; v++) {
            highest.due("forced " + v, true).due("forced " + -v, false);
        }
        new Run("11 true in all but one").clause(0, 1, 2).due("assume 3", 1).due("forced 1", false)
            .due("assume -2", 2).due("forced 1", true);
        new Run("11 the model stays").due("assume 2", 1).due("least", 2).due("next", 3).due("forced 2", true)
            .due("forced 1", false).due("forced -18", false).due("look 4", 1).due("value 1", 1).due("next", 6);
        new Run("11 the model stays none").due("forced 1", false).due("look 4", 0).due("add", 1)
            .due("forced 1", true).due("look 4", 0);
        new Run("11 what it denies is no clause behind it").due("forced 1", false).due("forced -1", false)
            .state(0, 0, 0, 0, 0).due("least", 0).due("next", 1);
    }

    private static void blames() {
        for (int wrong : new int[] {0, -1, 1, 17, 18, Integer.MAX_VALUE, Integer.MIN_VALUE}) {
            new Run("12 there is no assumption " + wrong + ", there is none at all").refused("blames " + wrong, ELEMENT)
                .due("can", true);
        }
        Run one = new Run("12 of one assumption there is 0 alone").clause(0, 4).due("assume -4", 1);
        one.refused("blames -1", ELEMENT).due("blames 0", true).refused("blames 1", ELEMENT);
        Run full = new Run("12 of 18 assumptions there are 0 to 17").clause(0, 1);
        for (int i = 1; i <= 18; i++) {
            full.due("assume " + (i == 1 ? -1 : i), i);
        }
        for (int i = 0; i <= 17; i++) {
            full.due("blames " + i, i == 0);
        }
        for (int wrong : new int[] {-1, 18, 19, 400, Integer.MAX_VALUE, Integer.MIN_VALUE}) {
            full.refused("blames " + wrong, ELEMENT);
        }
        Run last = new Run("12 the last of 18 is to blame").clause(0, -18);
        for (int i = 1; i <= 18; i++) {
            last.due("assume " + i, i);
        }
        last.due("blames 17", true).due("blames 16", false).due("blames 0", false);
        new Run("12 freed assumptions are none").due("assume 1", 1).due("assume -1", 2).due("blames 1", true)
            .due("free", 2).refused("blames 0", ELEMENT).refused("blames 1", ELEMENT).due("assume 1", 1)
            .due("blames 0", false).refused("blames 1", ELEMENT);
        new Run("12 a good assignment is there").clause(0, 1, 2).due("assume 1", 1).due("assume -2", 2)
            .due("blames 0", false).due("blames 1", false);
        new Run("12 two assumptions that contradict each other").due("assume 18", 1).due("assume -18", 2)
            .due("blames 0", true).due("blames 1", true);
        new Run("12 two that contradict each other, one of them twice").due("assume 1", 1).due("assume -1", 2)
            .due("assume 1", 3).due("blames 0", false).due("blames 1", true).due("blames 2", false);
        new Run("12 two pairs that contradict each other").due("assume 1", 1).due("assume -1", 2).due("assume 2", 3)
            .due("assume -2", 4).due("blames 0", false).due("blames 1", false).due("blames 2", false)
            .due("blames 3", false);
        new Run("12 there would be none without it either").clause(0, 3).clause(1, -3).due("assume 3", 1)
            .due("assume 4", 2).due("blames 0", false).due("blames 1", false);
        new Run("12 all others kept").clause(0, -1, -2).due("assume 1", 1).due("assume 2", 2).due("assume -1", 3)
            .due("blames 0", true).due("blames 1", false).due("blames 2", false);
        new Run("12 the model stays").due("assume 2", 1).due("assume 2", 2).due("least", 2).due("next", 3)
            .due("blames 0", false).refused("blames 2", ELEMENT).due("look 4", 1).due("value 1", 1).due("next", 6);
        new Run("12 the model stays none, and so do the assumptions").due("assume 3", 1).due("assume -3", 2)
            .due("blames 0", true).due("look 4", 0).due("look 2", 2).due("can", false);
    }

    private static void count() {
        for (int wrong : new int[] {0, -1, -64, 65, 66, 128, 256, Integer.MAX_VALUE, Integer.MIN_VALUE}) {
            new Run("13 " + wrong + " is not 1 .. 64").refused("count " + wrong, ARGUMENT).due("can", true);
            new Run("13 " + wrong + " is not 1 .. 64, also without a good assignment").due("add", 1)
                .refused("count " + wrong, ARGUMENT);
        }
        Run many = new Run("13 more than n good assignments, for each n");
        Run none = new Run("13 no good assignment, for each n").due("add", 1);
        for (int n = 1; n <= 64; n++) {
            many.due("count " + n, n);
            none.due("count " + n, 0);
        }
        Run one = new Run("13 one good assignment, the highest");
        Run lowest = new Run("13 one good assignment, the lowest");
        Run sixtyFour = new Run("13 just 64 good assignments");
        Run sixtyThree = new Run("13 63 good assignments").clause(0, 13, 14, 15, 16, 17, 18);
        for (int v = 1; v <= 18; v++) {
            one.due("assume " + v, v);
            lowest.due("assume " + -v, v);
            if (v <= 12) {
                sixtyFour.due("assume " + v, v);
                sixtyThree.due("assume " + -v, v);
            }
        }
        one.due("count 1", 1).due("count 2", 1).due("count 64", 1);
        lowest.due("count 1", 1).due("count 2", 1).due("count 64", 1);
        for (int n = 1; n <= 64; n++) {
            sixtyFour.due("count " + n, n);
            sixtyThree.due("count " + n, Math.min(n, 63));
        }
        sixtyFour.clause(0, -18, -17, -16, -15, -14, -13).due("count 64", 63).due("count 63", 63).due("count 62", 62);
        new Run("13 the model stays").due("least", 0).due("next", 1).due("count 64", 64).due("look 4", 1)
            .due("value 1", 1).due("next", 2);
        Run few = new Run("13 it counts those below the model too").clause(0, 17, 18);
        for (int v = 1; v <= 16; v++) {
            few.due("assume " + -v, v);
        }
        few.due("least", 65536).due("next", 131072).due("next", 196608).due("count 64", 3).due("count 3", 3);
        few.due("count 2", 2).due("value 17", 1).due("next", -1).due("count 64", 3);
        new Run("13 the model stays none").due("count 5", 5).due("look 4", 0).due("add", 1).due("count 5", 0)
            .due("look 4", 0);
    }

    private static void value() {
        int[] wrongs = {0, -1, -18, 19, 20, 32, 33, 50, Integer.MAX_VALUE, Integer.MIN_VALUE};
        for (int wrong : wrongs) {
            new Run("14 there is no variable " + wrong).due("assume 1", 1).due("assume 18", 2).due("least", 131073)
                .refused("value " + wrong, ARGUMENT).due("look 4", 1);
            new Run("14 there is no variable " + wrong + " and no model").refused("value " + wrong, ARGUMENT)
                .due("look 4", 0);
        }
        Run ones = new Run("14 each variable, all 1");
        Run zeros = new Run("14 each variable, all 0").due("least", 0);
        Run none = new Run("14 each variable, no model");
        for (int v = 1; v <= 18; v++) {
            ones.due("assume " + v, v);
            zeros.due("value " + v, 0);
            none.refused("value " + v, STATE);
        }
        ones.due("least", HIGHEST);
        for (int v = 1; v <= 18; v++) {
            ones.due("value " + v, 1);
        }
        new Run("14 no model any more").due("least", 0).due("value 18", 0).due("free", 0).refused("value 18", STATE);
        Run vain = new Run("14 no model behind a next in vain");
        for (int v = 1; v <= 18; v++) {
            vain.due("assume " + -v, v);
        }
        vain.due("least", 0).due("value 1", 0).due("next", -1).refused("value 1", STATE).refused("value 18", STATE);
    }

    private static void look() {
        for (int wrong : new int[] {-1, 5, 6, -4, 256, Integer.MAX_VALUE, Integer.MIN_VALUE}) {
            new Run("15 there is no what " + wrong).refused("look " + wrong, ARGUMENT);
            new Run("15 there is no what " + wrong + ", with a model").due("least", 0)
                .refused("look " + wrong, ARGUMENT).due("look 4", 1);
        }
        new Run("15 clauses are look 0 alone").due("add", 1).state(1, 0, 0, 0, 0);
        new Run("15 LEVEL is look 1 alone").due("open", 1).state(0, 1, 0, 0, 0);
        new Run("15 assumptions are look 2 alone").due("assume 1", 1).state(0, 0, 1, 0, 0);
        new Run("15 literals on the tape are look 3 alone").due("put 1", 1).state(0, 0, 0, 1, 0);
        new Run("15 the model is look 4 alone").due("least", 0).state(0, 0, 0, 0, 1);
        new Run("15 with the lowest assignment as the model it is 1").due("least", 0).due("look 4", 1);
        Run highest = new Run("15 with the highest assignment as the model it is 1");
        for (int v = 1; v <= 18; v++) {
            highest.due("assume " + v, v);
        }
        highest.due("least", HIGHEST).due("look 4", 1).due("next", -1).due("look 4", 0);
        new Run("15 look leaves the model").due("least", 0).due("next", 1).state(0, 0, 0, 0, 1).due("next", 2);
    }
}
