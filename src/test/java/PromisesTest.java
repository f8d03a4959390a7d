import java.util.NoSuchElementException;

/** Each promise by itself: ordinary inputs, the edges that the document names, wrong inputs. */
public final class PromisesTest {
    private static final Class<IllegalArgumentException> ARGUMENT = IllegalArgumentException.class;
    private static final Class<IllegalStateException> STATE = IllegalStateException.class;
    private static final Class<NoSuchElementException> ELEMENT = NoSuchElementException.class;
    private static final int[] NO_LITERALS = {0, 19, -19, 36, -36, Integer.MAX_VALUE, Integer.MIN_VALUE};
    private static final int HIGHEST = 262143;

    public static void main(String[] args) {
        newObject();
        put();
        putOnFullTape();
        add();
        addWhenFull();
        open();
        close();
        closeOverManyLevels();
        assume();
        free();
        least();
        next();
        can();
        forced();
        blames();
        count();
        value();
        look();
        modelGoes();
        modelStays();
        objectsAreApart();
        Run.end();
    }

    private static void newObject() {
        new Run("1 new object").state(0, 0, 0, 0, 0).due("can", true).due("least", 0);
        new Run("1 new object, nothing to take back").refused("close", STATE).refused("next", STATE)
            .refused("value 1", STATE).refused("blames 0", ELEMENT).due("free", 0).state(0, 0, 0, 0, 0);
    }

    private static void put() {
        Run run = new Run("2 put");
        run.due("put 1", 1).due("put 18", 2).due("put -18", 3).due("put -1", 4).due("put 1", 5);
        for (int wrong : NO_LITERALS) {
            run.refused("put " + wrong, ARGUMENT);
        }
        run.state(0, 0, 0, 5, 0);
        new Run("2 put, only add uses the tape up").due("put 3", 1).due("open", 1).due("assume 4", 1).due("least", 8)
            .due("next", 9).due("free", 1).due("close", 0).due("put 3", 2).due("add", 1).due("least", 4);
    }

    private static void putOnFullTape() {
        Run run = new Run("2 put, full tape");
        for (int i = 1; i <= 18; i++) {
            run.due("put " + (i < 18 ? 7 : -9), i);
        }
        run.refused("put 1", STATE).refused("put 7", STATE);
        for (int wrong : NO_LITERALS) {
            run.refused("put " + wrong, ARGUMENT);
        }
        run.state(0, 0, 0, 18, 0).due("add", 1).state(1, 0, 0, 0, 0);
        run.due("assume -7", 1).due("forced -9", true).due("assume 9", 2).due("can", false);
    }

    private static void add() {
        new Run("3 add").clause(0, 2, -1).clause(1, 18).clause(2, -17, -17).state(3, 0, 0, 0, 0)
            .due("least", 131072).due("next", 131074);
        new Run("3 add, a tape used up").clause(0, 1, 2).due("add", 2).due("can", false).due("least", -1);
        new Run("3 add, a clause is always true").clause(0, 4, -4).due("count 64", 64).due("assume 4", 1)
            .due("can", true).due("free", 1).due("assume -4", 1).due("can", true);
        Run all = new Run("3 add, a clause of all variables");
        all.clause(0, 1, 2, 3, 4, 5, 6, 7, 8, 9, 10, 11, 12, 13, 14, 15, 16, 17, 18).due("least", 1);
        all.clause(1, -1, -2, -3, -4, -5, -6, -7, -8, -9, -10, -11, -12, -13, -14, -15, -16, -17, -18);
        for (int v = 2; v <= 18; v++) {
            all.due("assume " + v, v - 1);
        }
        all.due("least", HIGHEST - 1).due("next", -1);
    }

    private static void addWhenFull() {
        Run run = new Run("3 add, 400 clauses").clause(0, 3).due("open", 1);
        for (int i = 2; i <= 399; i++) {
            run.due("add", i);
        }
        run.clause(399, -3).due("can", false).due("put 5", 1).refused("add", STATE).state(400, 1, 0, 1, 0);
        for (int i = 1; i <= 18; i++) {
            run.due("assume 3", i);
        }
        run.due("forced 3", true).due("forced -3", true).due("blames 17", false).due("free", 18);
        run.due("close", 399).due("least", 4).refused("close", STATE).due("look 4", 1);
        run.due("put 6", 2).due("add", 2).due("least", 20);
    }

    private static void open() {
        Run run = new Run("4 open");
        for (int i = 1; i <= 40; i++) {
            run.due("open", i);
        }
        run.due("least", 0).refused("open", STATE).state(0, 40, 0, 0, 1).due("value 1", 0);
        run.clause(0, 1).due("close", 1).due("open", 40).refused("open", STATE).due("close", 0);
        for (int i = 39; i >= 1; i--) {
            run.due("close", 0);
        }
        run.refused("close", STATE).due("open", 1).state(0, 1, 0, 0, 0);
    }

    private static void close() {
        new Run("5 close").clause(0, 1).due("open", 1).clause(1, 2).clause(2, 3).due("least", 7).due("close", 2)
            .state(1, 0, 0, 0, 0).due("least", 1).refused("close", STATE).state(1, 0, 0, 0, 1).due("value 1", 1);
        new Run("5 close, the tape and the assumptions stay").due("open", 1).clause(0, 1).due("put 5", 1)
            .due("assume 6", 1).due("close", 1).state(0, 0, 1, 1, 0).due("add", 1).due("least", 48);
        new Run("5 close, a level again").due("open", 1).clause(0, 1).due("close", 1).clause(0, 2).due("open", 1)
            .due("close", 0).due("look 0", 1).due("open", 1).clause(1, 3).due("close", 1).due("least", 2);
    }

    private static void closeOverManyLevels() {
        Run run = new Run("5 close, many levels");
        int clauses = 0;
        for (int i = 1; i <= 40; i++) {
            run.due("open", i);
            for (int k = 0; k < i % 4; k++) {
                run.clause(clauses, i % 18 + 1);
                clauses++;
            }
        }
        for (int i = 40; i >= 1; i--) {
            run.due("close", i % 4).due("look 1", i - 1);
        }
        run.state(0, 0, 0, 0, 0).due("least", 0);
    }

    private static void assume() {
        Run run = new Run("6 assume");
        run.due("assume 1", 1).due("assume -2", 2).due("assume 18", 3).due("least", 131073);
        for (int wrong : NO_LITERALS) {
            run.refused("assume " + wrong, ARGUMENT);
        }
        run.state(0, 0, 3, 0, 1).due("value 18", 1);
        for (int i = 4; i <= 18; i++) {
            run.due("assume 1", i);
        }
        run.due("least", 131073).refused("assume 1", STATE).refused("assume -1", STATE);
        for (int wrong : NO_LITERALS) {
            run.refused("assume " + wrong, ARGUMENT);
        }
        run.state(0, 0, 18, 0, 1).due("value 1", 1).due("next", 131077);
        new Run("6 assume, against itself").due("assume 9", 1).due("assume -9", 2).due("least", -1).due("can", false);
        new Run("6 assume, levels leave them").due("open", 1).due("assume 2", 1).due("close", 0).due("least", 2);
    }

    private static void free() {
        Run run = new Run("7 free").due("free", 0).due("assume 1", 1).due("assume 1", 2).due("assume -1", 3);
        run.due("can", false).due("free", 3).due("free", 0).due("can", true).state(0, 0, 0, 0, 0);
        run.due("assume 3", 1).due("least", 4).refused("blames 1", ELEMENT);
        for (int i = 2; i <= 18; i++) {
            run.due("assume 3", i);
        }
        run.due("free", 18).due("assume 2", 1).due("least", 2);
        new Run("7 free, the clauses and the tape stay").clause(0, 2).due("put 1", 1).due("open", 1)
            .due("assume -2", 1).due("free", 1).state(1, 1, 0, 1, 0).due("least", 2);
    }

    private static void least() {
        new Run("8 least").due("least", 0).due("least", 0).clause(0, 18, 17).due("least", 65536).clause(1, -17)
            .due("least", 131072).clause(2, 1, -18).due("least", 131073).due("next", 131075).due("least", 131073)
            .clause(3, -18, -1).due("least", -1).due("look 4", 0);
        Run highest = new Run("8 least, the highest one");
        for (int v = 1; v <= 18; v++) {
            highest.clause(v - 1, v);
        }
        highest.due("least", HIGHEST).due("value 18", 1).due("next", -1).due("look 4", 0).refused("next", STATE);
        new Run("8 least, a low core without a good one").clause(0, 1, 2).clause(1, 1, -2).clause(2, -1, 2)
            .due("least", 3).clause(3, -1, -2).due("least", -1).refused("value 1", STATE);
    }

    private static void next() {
        Run run = new Run("9 next").refused("next", STATE).due("least", 0);
        for (int i = 1; i <= 100; i++) {
            run.due("next", i);
        }
        run.due("put 1", 1).due("next", 101).due("add", 1).refused("next", STATE).refused("next", STATE);
        new Run("9 next, to the end").clause(0, 17, 18).due("assume -1", 1).due("assume -2", 2).due("assume -3", 3)
            .due("assume -4", 4).due("assume -5", 5).due("assume -6", 6).due("assume -7", 7).due("assume -8", 8)
            .due("assume -9", 9).due("assume -10", 10).due("assume -11", 11).due("assume -12", 12)
            .due("assume -13", 13).due("assume -14", 14).due("assume -15", 15).due("assume -16", 16)
            .due("least", 65536).due("next", 131072).due("next", 196608).due("next", -1).due("look 4", 0)
            .refused("next", STATE).refused("value 1", STATE).due("least", 65536).due("next", 131072);
        new Run("9 next, leaps").clause(0, -1).clause(1, 2).clause(2, 3, -4).due("least", 2).due("next", 6)
            .due("next", 14).due("next", 18).due("next", 22).due("next", 30).due("next", 34);
    }

    private static void can() {
        new Run("10 can").due("can", true).due("look 4", 0).due("add", 1).due("can", false);
        new Run("10 can, under assumptions").clause(0, 1, 2).due("assume -1", 1).due("can", true)
            .due("assume -2", 2).due("can", false).due("free", 2).due("can", true);
    }

    private static void forced() {
        Run run = new Run("11 forced").clause(0, 1, 2).clause(1, 1, -2).clause(2, -18);
        run.due("forced 1", true).due("forced -1", false).due("forced 2", false).due("forced -2", false);
        run.due("forced -18", true).due("forced 18", false).due("assume -2", 1).due("forced -2", true);
        run.due("forced 2", false).due("assume -1", 2);
        for (int v = 1; v <= 18; v++) {
            run.due("forced " + v, true).due("forced " + -v, true);
        }
        for (int wrong : NO_LITERALS) {
            run.refused("forced " + wrong, ARGUMENT);
        }
        run.state(3, 0, 2, 0, 0).due("free", 2).due("least", 1);
    }

    private static void blames() {
        Run run = new Run("12 blames").clause(0, -1, -2).due("assume 1", 1).due("assume 3", 2).due("blames 0", false);
        run.due("blames 1", false).due("assume 2", 3).due("blames 0", true).due("blames 1", false);
        run.due("blames 2", true).due("assume 2", 4).due("blames 0", true).due("blames 2", false);
        run.due("blames 3", false);
        for (int wrong : new int[] {4, -1, 18, 400, Integer.MAX_VALUE, Integer.MIN_VALUE}) {
            run.refused("blames " + wrong, ELEMENT);
        }
        run.state(1, 0, 4, 0, 0).due("can", false).due("free", 4).refused("blames 0", ELEMENT);
        new Run("12 blames, against itself").due("assume 5", 1).due("assume 6", 2).due("assume -5", 3)
            .due("blames 0", true).due("blames 1", false).due("blames 2", true);
        new Run("12 blames, two quarrels").due("assume 5", 1).due("assume -5", 2).due("assume 6", 3)
            .due("assume -6", 4).due("blames 0", false).due("blames 1", false).due("blames 2", false)
            .due("blames 3", false);
        new Run("12 blames, the clauses alone").due("add", 1).due("assume 5", 1).due("blames 0", false);
        Run last = new Run("12 blames, the last of 18");
        for (int i = 1; i <= 17; i++) {
            last.due("assume 5", i);
        }
        last.due("assume -5", 18).due("blames 17", true).due("blames 16", false).refused("blames 18", ELEMENT);
    }

    private static void count() {
        Run run = new Run("13 count").due("count 1", 1).due("count 2", 2).due("count 63", 63).due("count 64", 64);
        for (int wrong : new int[] {0, 65, -1, 100, Integer.MAX_VALUE, Integer.MIN_VALUE}) {
            run.refused("count " + wrong, ARGUMENT);
        }
        run.state(0, 0, 0, 0, 0);
        for (int v = 18; v >= 7; v--) {
            run.due("assume " + v, 19 - v);
        }
        run.due("count 64", 64).due("assume 3", 13).due("count 64", 32).due("count 32", 32).due("count 31", 31);
        run.clause(0, 1, 2).due("count 64", 24).clause(1, 4, 5, 6).due("count 64", 21).clause(2, -3);
        run.due("count 64", 0).due("count 1", 0).due("free", 13).due("count 64", 64);
    }

    private static void value() {
        Run run = new Run("14 value").refused("value 1", STATE).clause(0, 18).clause(1, 5).due("least", 131088);
        for (int v = 1; v <= 18; v++) {
            run.due("value " + v, v == 18 || v == 5 ? 1 : 0);
        }
        run.due("next", 131089).due("value 1", 1).due("value 2", 0);
        int[] wrongs = {0, 19, -1, -18, 32, 33, Integer.MAX_VALUE, Integer.MIN_VALUE};
        for (int wrong : wrongs) {
            run.refused("value " + wrong, ARGUMENT);
        }
        run.due("free", 0);
        for (int wrong : wrongs) {
            run.refused("value " + wrong, ARGUMENT);
        }
        run.refused("value 18", STATE).refused("value 1", STATE);
    }

    private static void look() {
        Run run = new Run("15 look").state(0, 0, 0, 0, 0).clause(0, 1).due("add", 2).due("open", 1).due("open", 2)
            .due("open", 3).due("assume 1", 1).due("assume 1", 2).due("assume 1", 3).due("assume 1", 4)
            .due("put 1", 1).due("put 1", 2).due("put 1", 3).due("put 1", 4).due("put 1", 5);
        run.state(2, 3, 4, 5, 0).due("least", -1).state(2, 3, 4, 5, 0);
        for (int wrong : new int[] {5, -1, 64, Integer.MAX_VALUE, Integer.MIN_VALUE}) {
            run.refused("look " + wrong, ARGUMENT);
        }
        run.state(2, 3, 4, 5, 0);
    }

    private static void modelGoes() {
        new Run("no model behind add").due("least", 0).due("look 4", 1).due("add", 1).due("look 4", 0);
        new Run("no model behind open").due("least", 0).due("open", 1).due("look 4", 0).refused("next", STATE);
        new Run("no model behind close").due("open", 1).due("least", 0).due("close", 0).due("look 4", 0);
        new Run("no model behind assume").due("least", 0).due("assume -1", 1).refused("value 1", STATE);
        new Run("no model behind free").due("least", 0).due("free", 0).due("look 4", 0).refused("next", STATE);
        new Run("no model behind a search in vain").due("add", 1).due("least", -1).due("look 4", 0);
    }

    private static void modelStays() {
        Run run = new Run("the model stays").clause(0, 3, 4).due("least", 4).due("next", 5);
        run.due("put 1", 1).refused("put 0", ARGUMENT).due("can", true).due("forced 4", false);
        run.due("forced -18", false).refused("forced 0", ARGUMENT).due("count 64", 64).refused("count 0", ARGUMENT);
        run.refused("blames 0", ELEMENT).refused("value 0", ARGUMENT).refused("assume 0", ARGUMENT);
        run.refused("close", STATE).refused("look 5", ARGUMENT).due("look 0", 1);
        run.due("value 1", 1).due("value 2", 0).due("value 3", 1).due("look 4", 1).due("next", 6);
        new Run("the model stays behind blames").due("assume 2", 1).due("least", 2).due("blames 0", false)
            .due("value 2", 1).due("next", 3);
    }

    private static void objectsAreApart() {
        Run first = new Run("first of two");
        Run second = new Run("second of two");
        first.clause(0, 1).due("assume 2", 1).due("put 4", 1).due("least", 3);
        second.state(0, 0, 0, 0, 0).due("least", 0).due("assume 3", 1).due("least", 4);
        first.state(1, 0, 1, 1, 1).due("next", 7);
    }
}
