import java.util.function.Supplier;
import java.util.function.ToIntFunction;

/**
 * The terms' "Calls that are refused answer, the first of these that fits: UNKNOWN, OUTSIDE, STATE,
 * FULL, NO. They change nothing." Each reason alone and ahead of each later one that can fit with it;
 * behind each refused call the bench answers as its twin that wasn't asked.
 */
public final class RefusalsTest extends Numbers {
    /** How many TYPES described() has; the first number that is none. */
    private static final int TYPES = 9;

    private RefusalsTest() {
    }

    public static void main(String[] args) {
        clsRefused();
        faceRefused();
        underUnknownOrOutside();
        underStateFullOrNo();
        fieldRefused();
        methodRefused();
        actUnknown();
        actOutside();
        actStateFullOrNo();
        looksAtDescriptionRefused();
        worldRefused();
        touchRefused();
        foretellRefused();
        looksAtWorldsRefused();
        stateAsLongAsThereAreWorlds();
        Due.end();
    }

    /**
     * 0 a CLASS UNDER 2 to 5, with 6 FIELDS, 4 METHODS and 12 ACTIONS in its START and its METHOD 0;
     * 1 a CLASS with 0 ABOVE it, with a FIELD and a METHOD 0; 2 to 7 FACES, 6 UNDER 2 to 5 and
     * 7 UNDER 6; 8 a CLASS with 1 ABOVE it.
     */
    private static StartBench described() {
        StartBench x = new StartBench();
        x.cls(-1, false);
        x.cls(0, false);
        for (int i = 2; i < 8; i++) {
            x.face(i % 2 == 0);
        }
        x.cls(1, false);
        for (int face = 2; face < 6; face++) {
            x.under(0, face);
            x.under(6, face);
        }
        x.under(7, 6);
        for (int name = 0; name < 6; name++) {
            x.field(0, name, name == 5, 50);
        }
        for (int name = 0; name < 4; name++) {
            x.method(0, name);
        }
        acts(x, 12, 0, START, MARK, 0, 3);
        acts(x, 12, 0, 0, MARK, 0, 4);
        x.act(0, 1, THROW, 0, 0, 5);
        x.field(1, 0, false, 0);
        x.method(1, 0);
        return x;
    }

    /** In WORLD 0 the latest touch failed, in WORLD 1 a FIELD of 1 holds 6. */
    private static StartBench used() {
        StartBench x = described();
        x.world();
        x.world();
        x.touch(0, CALL, 1, 1, 0);
        x.touch(1, WRITE, 1, 0, 6);
        return x;
    }

    /** 39 CLASSES and a FACE, 39. */
    private static StartBench forty() {
        StartBench x = classes(39);
        x.face(true);
        return x;
    }

    private static StartBench fortyUsed() {
        StartBench x = forty();
        x.world();
        return x;
    }

    private static StartBench twelveWorlds() {
        StartBench x = classes(1);
        for (int i = 0; i < 12; i++) {
            x.world();
        }
        return x;
    }

    private static void refused(String what, Supplier<StartBench> bench, ToIntFunction<StartBench> call, int want) {
        StartBench x = bench.get();
        due(what, call.applyAsInt(x), want);
        Due.isTrue(what + ": changes nothing", lookOver(x).equals(lookOver(bench.get())));
    }

    /** What a bench answers, and what comes of it when it is used from there on. */
    private static String lookOver(StartBench x) {
        StringBuilder all = new StringBuilder();
        int worlds = x.told(0, 1);
        int types = Math.min(TYPES, x.told(0, 0));
        all.append(x.told(0, 0)).append(' ').append(worlds);
        lookOverTypes(x, all, types);
        for (int world = 0; world < Math.min(2, worlds); world++) {
            lookOverWorld(x, all, world, types);
        }
        all.append(" differs ").append(x.differs(0, 1)).append(" gone ").append(x.gone());
        all.append(" cls ").append(x.cls(-1, false)).append(" world ").append(x.world());
        for (int type = 0; type < types; type++) {
            all.append(' ').append(x.touch(0, ASK, type, 0, 0));
        }
        lookOverWorld(x, all, 0, 1);
        return all.toString();
    }

    private static void lookOverTypes(StartBench x, StringBuilder all, int types) {
        for (int type = 0; type < types; type++) {
            all.append(" type ");
            for (int what = 2; what <= 9; what++) {
                all.append(' ').append(x.told(type, what));
            }
            all.append(" found ").append(x.found(type, 0, false)).append(' ').append(x.found(type, 7, false));
            all.append(' ').append(x.found(type, 0, true)).append(' ').append(x.found(type, 5, true));
            all.append(" asks ").append(x.asks(type, 0)).append(' ').append(x.asks(type, 1));
            all.append(" below ").append(x.below(type, 0)).append(' ').append(x.below(type, 2));
        }
    }

    private static void lookOverWorld(StartBench x, StringBuilder all, int world, int types) {
        all.append(" world ").append(world);
        for (int type = 0; type < types; type++) {
            all.append(' ').append(x.state(world, type)).append(' ').append(x.value(world, type, 0));
        }
        int began = x.began(world, -1);
        for (int i = 0; i <= Math.min(8, began); i++) {
            all.append(" began ").append(x.began(world, i));
        }
        int tape = x.tape(world, -1);
        all.append(" tape ").append(tape);
        for (int i = 0; i <= Math.min(16, tape); i++) {
            all.append(' ').append(x.tape(world, i));
        }
        all.append(" failed ").append(x.failed(world, 0)).append(' ').append(x.failed(world, 1)).append(" spent");
        for (int what = 0; what < 4; what++) {
            all.append(' ').append(x.spent(world, what)).append(' ').append(x.many(world, what));
        }
    }

    private static void clsRefused() {
        refused("2 unknown", RefusalsTest::described, x -> x.cls(TYPES, true), UNKNOWN);
        refused("2 unknown, below -1", RefusalsTest::described, x -> x.cls(-2, true), UNKNOWN);
        refused("2 outside", RefusalsTest::described, x -> x.cls(2, true), OUTSIDE);
        refused("2 state", RefusalsTest::used, x -> x.cls(0, true), STATE);
        refused("2 state, none above", RefusalsTest::used, x -> x.cls(-1, true), STATE);
        refused("2 full", RefusalsTest::forty, x -> x.cls(0, true), FULL);
        refused("2 full, none above", RefusalsTest::forty, x -> x.cls(-1, true), FULL);
        refused("2 unknown ahead of state", RefusalsTest::used, x -> x.cls(TYPES, true), UNKNOWN);
        refused("2 unknown ahead of full", RefusalsTest::forty, x -> x.cls(40, true), UNKNOWN);
        refused("2 unknown ahead of both", RefusalsTest::fortyUsed, x -> x.cls(40, true), UNKNOWN);
        refused("2 outside ahead of state", RefusalsTest::used, x -> x.cls(2, true), OUTSIDE);
        refused("2 outside ahead of full", RefusalsTest::forty, x -> x.cls(39, true), OUTSIDE);
        refused("2 outside ahead of both", RefusalsTest::fortyUsed, x -> x.cls(39, true), OUTSIDE);
        refused("2 state ahead of full", RefusalsTest::fortyUsed, x -> x.cls(0, true), STATE);
    }

    private static void faceRefused() {
        refused("3 state", RefusalsTest::used, x -> x.face(true), STATE);
        refused("3 full", RefusalsTest::forty, x -> x.face(true), FULL);
        refused("3 state ahead of full", RefusalsTest::fortyUsed, x -> x.face(false), STATE);
    }

    private static void underUnknownOrOutside() {
        refused("4 unknown type", RefusalsTest::described, x -> x.under(TYPES, 2), UNKNOWN);
        refused("4 unknown face", RefusalsTest::described, x -> x.under(1, TYPES), UNKNOWN);
        refused("4 both unknown, and the same", RefusalsTest::described, x -> x.under(TYPES, TYPES), UNKNOWN);
        refused("4 unknown ahead of outside", RefusalsTest::described, x -> x.under(-1, 0), UNKNOWN);
        refused("4 unknown ahead of state", RefusalsTest::used, x -> x.under(-1, 2), UNKNOWN);
        refused("4 unknown face ahead of state", RefusalsTest::used, x -> x.under(1, -1), UNKNOWN);
        refused("4 unknown ahead of full", RefusalsTest::described, x -> x.under(0, TYPES), UNKNOWN);
        refused("4 outside", RefusalsTest::described, x -> x.under(8, 0), OUTSIDE);
        refused("4 outside ahead of state", RefusalsTest::used, x -> x.under(8, 0), OUTSIDE);
        refused("4 outside ahead of full", RefusalsTest::described, x -> x.under(6, 1), OUTSIDE);
        refused("4 outside ahead of no, itself", RefusalsTest::described, x -> x.under(1, 1), OUTSIDE);
        refused("4 outside ahead of no, below it", RefusalsTest::described, x -> x.under(1, 8), OUTSIDE);
        refused("4 outside ahead of full and no", RefusalsTest::described, x -> x.under(0, 8), OUTSIDE);
    }

    private static void underStateFullOrNo() {
        refused("4 state", RefusalsTest::used, x -> x.under(1, 2), STATE);
        refused("4 state ahead of full", RefusalsTest::used, x -> x.under(0, 7), STATE);
        refused("4 state ahead of no, again", RefusalsTest::used, x -> x.under(7, 6), STATE);
        refused("4 state ahead of no, itself", RefusalsTest::used, x -> x.under(2, 2), STATE);
        refused("4 state ahead of no, below it", RefusalsTest::used, x -> x.under(2, 7), STATE);
        refused("4 full", RefusalsTest::described, x -> x.under(0, 7), FULL);
        refused("4 full ahead of no, again", RefusalsTest::described, x -> x.under(0, 5), FULL);
        refused("4 full ahead of no, itself", RefusalsTest::described, x -> x.under(6, 6), FULL);
        refused("4 full ahead of no, below it", RefusalsTest::described, x -> x.under(6, 7), FULL);
        refused("4 no, again", RefusalsTest::described, x -> x.under(7, 6), NO);
        refused("4 no, itself", RefusalsTest::described, x -> x.under(7, 7), NO);
        refused("4 no, below it", RefusalsTest::described, x -> x.under(2, 6), NO);
        refused("4 no, below it by another one", RefusalsTest::described, x -> x.under(5, 7), NO);
    }

    private static void fieldRefused() {
        refused("5 unknown", RefusalsTest::described, x -> x.field(TYPES, 7, true, 1), UNKNOWN);
        refused("5 unknown ahead of outside", RefusalsTest::described, x -> x.field(-1, 10, true, 1), UNKNOWN);
        refused("5 unknown ahead of state", RefusalsTest::used, x -> x.field(TYPES, 7, true, 1), UNKNOWN);
        refused("5 outside, too small", RefusalsTest::described, x -> x.field(1, -1, true, 1), OUTSIDE);
        refused("5 outside, too large", RefusalsTest::described, x -> x.field(1, 10, true, 1), OUTSIDE);
        refused("5 outside ahead of state", RefusalsTest::used, x -> x.field(1, 10, true, 1), OUTSIDE);
        refused("5 outside ahead of full", RefusalsTest::described, x -> x.field(0, 10, true, 1), OUTSIDE);
        refused("5 state", RefusalsTest::used, x -> x.field(1, 7, true, 1), STATE);
        refused("5 state ahead of full", RefusalsTest::used, x -> x.field(0, 7, true, 1), STATE);
        refused("5 state ahead of no", RefusalsTest::used, x -> x.field(1, 0, true, 1), STATE);
        refused("5 state ahead of full and no", RefusalsTest::used, x -> x.field(0, 0, true, 1), STATE);
        refused("5 full", RefusalsTest::described, x -> x.field(0, 7, true, 1), FULL);
        refused("5 full ahead of no", RefusalsTest::described, x -> x.field(0, 0, true, 1), FULL);
        refused("5 no", RefusalsTest::described, x -> x.field(1, 0, true, 1), NO);
        refused("5 no, the same once more", RefusalsTest::described, x -> x.field(1, 0, false, 0), NO);
    }

    private static void methodRefused() {
        refused("6 unknown", RefusalsTest::described, x -> x.method(TYPES, 5), UNKNOWN);
        refused("6 unknown ahead of outside", RefusalsTest::described, x -> x.method(-1, -1), UNKNOWN);
        refused("6 unknown ahead of state", RefusalsTest::used, x -> x.method(TYPES, 5), UNKNOWN);
        refused("6 outside, too small", RefusalsTest::described, x -> x.method(1, -1), OUTSIDE);
        refused("6 outside, too large", RefusalsTest::described, x -> x.method(1, 10), OUTSIDE);
        refused("6 outside ahead of state", RefusalsTest::used, x -> x.method(1, -1), OUTSIDE);
        refused("6 outside ahead of full", RefusalsTest::described, x -> x.method(0, 10), OUTSIDE);
        refused("6 state", RefusalsTest::used, x -> x.method(1, 5), STATE);
        refused("6 state ahead of full", RefusalsTest::used, x -> x.method(0, 5), STATE);
        refused("6 state ahead of no", RefusalsTest::used, x -> x.method(1, 0), STATE);
        refused("6 state ahead of full and no", RefusalsTest::used, x -> x.method(0, 0), STATE);
        refused("6 full", RefusalsTest::described, x -> x.method(0, 5), FULL);
        refused("6 full ahead of no", RefusalsTest::described, x -> x.method(0, 0), FULL);
        refused("6 no", RefusalsTest::described, x -> x.method(1, 0), NO);
    }

    private static void actUnknown() {
        refused("7 unknown type", RefusalsTest::described, x -> x.act(TYPES, START, MARK, 0, 0, 0), UNKNOWN);
        refused("7 unknown type ahead of outside", RefusalsTest::described, x -> x.act(-1, START, 9, 0, 0, 0), UNKNOWN);
        refused("7 unknown type ahead of state", RefusalsTest::used, x -> x.act(-1, START, MARK, 0, 0, 0), UNKNOWN);
        refused("7 unknown type ahead of no", RefusalsTest::described, x -> x.act(-1, 10, MARK, 0, 0, 0), UNKNOWN);
        for (int kind = READ; kind <= LOOK; kind++) {
            int k = kind;
            String what = "7 unknown t of kind " + kind;
            refused(what, RefusalsTest::described, x -> x.act(1, START, k, TYPES, 0, 0), UNKNOWN);
            refused(what + " ahead of state", RefusalsTest::used, x -> x.act(1, START, k, -1, 0, 0), UNKNOWN);
            refused(what + " ahead of full", RefusalsTest::described, x -> x.act(0, START, k, -1, 0, 0), UNKNOWN);
            refused(what + " ahead of no", RefusalsTest::described, x -> x.act(1, 1, k, TYPES, 0, 0), UNKNOWN);
            if (kind <= CALL) {
                refused(what + " ahead of n", RefusalsTest::described, x -> x.act(1, START, k, -1, 10, 0), UNKNOWN);
            }
        }
    }

    private static void actOutside() {
        int[][] outside = {{-1, 0, 0}, {9, 0, 0}, {LEAST, 0, 0}, {MOST, 0, 0}, {READ, -1, 0}, {READ, 10, 0},
            {WRITE, -1, 0}, {WRITE, 10, 0}, {CALL, -1, 0}, {CALL, 10, 0}, {THROW, 0, -1}, {THROW, 0, 20},
            {CATCH, 0, -2}, {CATCH, 0, 23}};
        for (int[] one : outside) {
            String what = "7 outside, kind " + one[0] + " n " + one[1] + " v " + one[2];
            refused(what, RefusalsTest::described, x -> x.act(1, START, one[0], 2, one[1], one[2]), OUTSIDE);
            refused(what + " ahead of state", RefusalsTest::used,
                x -> x.act(1, START, one[0], 2, one[1], one[2]), OUTSIDE);
            refused(what + " ahead of full", RefusalsTest::described,
                x -> x.act(0, 0, one[0], 2, one[1], one[2]), OUTSIDE);
            refused(what + " ahead of no", RefusalsTest::described,
                x -> x.act(1, 1, one[0], 2, one[1], one[2]), OUTSIDE);
        }
    }

    private static void actStateFullOrNo() {
        refused("7 state", RefusalsTest::used, x -> x.act(1, START, MARK, 0, 0, 0), STATE);
        refused("7 state ahead of full", RefusalsTest::used, x -> x.act(0, START, MARK, 0, 0, 0), STATE);
        refused("7 state ahead of no", RefusalsTest::used, x -> x.act(1, 1, MARK, 0, 0, 0), STATE);
        refused("7 state ahead of no, no name", RefusalsTest::used, x -> x.act(1, 10, MARK, 0, 0, 0), STATE);
        refused("7 full start", RefusalsTest::described, x -> x.act(0, START, MARK, 0, 0, 0), FULL);
        refused("7 full method", RefusalsTest::described, x -> x.act(0, 0, MARK, 0, 0, 0), FULL);
        refused("7 no such method", RefusalsTest::described, x -> x.act(0, 4, MARK, 0, 0, 0), NO);
        refused("7 the one above has it", RefusalsTest::described, x -> x.act(1, 1, MARK, 0, 0, 0), NO);
        refused("7 a field has that name", RefusalsTest::described, x -> x.act(0, 5, MARK, 0, 0, 0), NO);
        refused("7 a number that is no name, 10", RefusalsTest::described, x -> x.act(0, 10, MARK, 0, 0, 0), NO);
        refused("7 a number that is no name, -2", RefusalsTest::described, x -> x.act(0, -2, MARK, 0, 0, 0), NO);
        refused("7 a number that is no name, least", RefusalsTest::described, x -> x.act(0, LEAST, MARK, 0, 0, 0), NO);
        refused("7 a number that is no name, most", RefusalsTest::described, x -> x.act(0, MOST, MARK, 0, 0, 0), NO);
    }

    private static void looksAtDescriptionRefused() {
        refused("8 unknown", RefusalsTest::described, x -> x.told(TYPES, 2), UNKNOWN);
        refused("8 outside, too small", RefusalsTest::described, x -> x.told(0, -1), OUTSIDE);
        refused("8 outside, too large", RefusalsTest::described, x -> x.told(0, 10), OUTSIDE);
        refused("8 outside ahead of unknown", RefusalsTest::described, x -> x.told(TYPES, 10), OUTSIDE);
        refused("9 unknown", RefusalsTest::described, x -> x.below(TYPES, 0), UNKNOWN);
        refused("9 unknown other", RefusalsTest::described, x -> x.below(0, TYPES), UNKNOWN);
        refused("10 unknown", RefusalsTest::described, x -> x.found(TYPES, 0, true), UNKNOWN);
        refused("10 outside", RefusalsTest::described, x -> x.found(0, 10, false), OUTSIDE);
        refused("10 unknown ahead of outside", RefusalsTest::described, x -> x.found(-1, -1, false), UNKNOWN);
        refused("11 unknown", RefusalsTest::described, x -> x.asks(TYPES, 0), UNKNOWN);
        refused("11 unknown, whatever the place", RefusalsTest::described, x -> x.asks(-1, -1), UNKNOWN);
    }

    private static void worldRefused() {
        refused("13 full", RefusalsTest::twelveWorlds, x -> x.world(), FULL);
        refused("13 no", StartBench::new, x -> x.world(), NO);
    }

    private static void touchRefused() {
        refused("15 unknown world", RefusalsTest::used, x -> x.touch(2, ASK, 2, 0, 0), UNKNOWN);
        refused("15 unknown t", RefusalsTest::used, x -> x.touch(0, ASK, TYPES, 0, 0), UNKNOWN);
        refused("15 unknown world ahead of kind", RefusalsTest::used, x -> x.touch(-1, MARK, 0, 0, 0), UNKNOWN);
        refused("15 unknown world ahead of n", RefusalsTest::used, x -> x.touch(2, READ, 0, 10, 0), UNKNOWN);
        refused("15 unknown t ahead of kind", RefusalsTest::used, x -> x.touch(0, THROW, -1, 0, 0), UNKNOWN);
        refused("15 unknown t ahead of n", RefusalsTest::used, x -> x.touch(0, CALL, TYPES, -1, 0), UNKNOWN);
        int[][] outside = {{-1, 0}, {MARK, 0}, {THROW, 0}, {CATCH, 0}, {9, 0}, {READ, -1}, {READ, 10}, {WRITE, -1},
            {WRITE, 10}, {CALL, -1}, {CALL, 10}};
        for (int[] one : outside) {
            refused("15 outside, kind " + one[0] + " n " + one[1], RefusalsTest::used,
                x -> x.touch(0, one[0], 2, one[1], 1), OUTSIDE);
        }
    }

    private static void foretellRefused() {
        refused("16 unknown world", RefusalsTest::used, x -> x.foretell(2, ASK, 2, 0, 0), UNKNOWN);
        refused("16 unknown t", RefusalsTest::used, x -> x.foretell(0, ASK, TYPES, 0, 0), UNKNOWN);
        refused("16 unknown world ahead of kind", RefusalsTest::used, x -> x.foretell(-1, MARK, 0, 0, 0), UNKNOWN);
        refused("16 unknown world ahead of n", RefusalsTest::used, x -> x.foretell(2, READ, 0, 10, 0), UNKNOWN);
        refused("16 unknown t ahead of kind", RefusalsTest::used, x -> x.foretell(0, THROW, -1, 0, 0), UNKNOWN);
        refused("16 unknown t ahead of n", RefusalsTest::used, x -> x.foretell(0, CALL, TYPES, -1, 0), UNKNOWN);
        int[][] outside = {{-1, 0}, {MARK, 0}, {THROW, 0}, {CATCH, 0}, {9, 0}, {READ, -1}, {READ, 10}, {WRITE, -1},
            {WRITE, 10}, {CALL, -1}, {CALL, 10}};
        for (int[] one : outside) {
            refused("16 outside, kind " + one[0] + " n " + one[1], RefusalsTest::used,
                x -> x.foretell(0, one[0], 2, one[1], 1), OUTSIDE);
        }
    }

    private static void looksAtWorldsRefused() {
        refused("17 unknown world", RefusalsTest::used, x -> x.state(2, 0), UNKNOWN);
        refused("17 unknown type", RefusalsTest::used, x -> x.state(0, TYPES), UNKNOWN);
        refused("18 unknown", RefusalsTest::used, x -> x.began(2, -1), UNKNOWN);
        refused("19 unknown: 0", RefusalsTest::used, x -> x.tape(2, -1), 0);
        refused("20 unknown world: 0", RefusalsTest::used, x -> x.value(2, 0, 5), 0);
        refused("20 unknown type: 0", RefusalsTest::used, x -> x.value(0, TYPES, 5), 0);
        refused("20 outside: 0", RefusalsTest::used, x -> x.value(0, 0, 10), 0);
        refused("21 unknown", RefusalsTest::used, x -> x.failed(2, 0), UNKNOWN);
        refused("21 outside, too small", RefusalsTest::used, x -> x.failed(0, -1), OUTSIDE);
        refused("21 outside, too large", RefusalsTest::used, x -> x.failed(0, 2), OUTSIDE);
        refused("21 unknown ahead of outside", RefusalsTest::used, x -> x.failed(2, 2), UNKNOWN);
        refused("22 unknown", RefusalsTest::used, x -> x.spent(2, 0), UNKNOWN);
        refused("22 outside, too small", RefusalsTest::used, x -> x.spent(0, -1), OUTSIDE);
        refused("22 outside, too large", RefusalsTest::used, x -> x.spent(0, 4), OUTSIDE);
        refused("22 unknown ahead of outside", RefusalsTest::used, x -> x.spent(-1, 4), UNKNOWN);
        refused("23 unknown", RefusalsTest::used, x -> x.many(2, 0), UNKNOWN);
        refused("23 outside, too small", RefusalsTest::used, x -> x.many(0, -1), OUTSIDE);
        refused("23 outside, too large", RefusalsTest::used, x -> x.many(0, 4), OUTSIDE);
        refused("23 unknown ahead of outside", RefusalsTest::used, x -> x.many(-1, 4), UNKNOWN);
        refused("24 unknown", RefusalsTest::used, x -> x.differs(2, 0), UNKNOWN);
        refused("24 unknown other", RefusalsTest::used, x -> x.differs(0, -1), UNKNOWN);
        refused("24 both unknown, and the same", RefusalsTest::used, x -> x.differs(2, 2), UNKNOWN);
    }

    /** "As long as there are WORLDS": from the first on, to the last one's going, not a refused one's. */
    private static void stateAsLongAsThereAreWorlds() {
        StartBench x = new StartBench();
        x.world();
        due("a WORLD that was refused is none", x.cls(-1, false), 0);
        due("a FACE, too", x.face(true), 1);
        x.gone();
        due("gone() without WORLDS changes nothing", x.under(0, 1), 1);
        for (int worlds = 1; worlds <= 12; worlds++) {
            x.world();
            due("2 with " + worlds, x.cls(-1, false), STATE);
            due("3 with " + worlds, x.face(true), STATE);
            due("4 with " + worlds, x.under(1, 1), STATE);
            due("5 with " + worlds, x.field(0, 0, false, 0), STATE);
            due("6 with " + worlds, x.method(0, 0), STATE);
            due("7 with " + worlds, x.act(0, START, MARK, 0, 0, 0), STATE);
        }
        x.world();
        x.gone();
        due("2 as they are gone", x.cls(-1, false), 2);
        due("3 as they are gone", x.face(true), 3);
        due("4 as they are gone", x.under(2, 3), 1);
        due("5 as they are gone", x.field(0, 0, false, 0), 1);
        due("6 as they are gone", x.method(0, 0), 1);
        due("7 as they are gone", x.act(0, START, MARK, 0, 0, 0), 1);
    }
}
