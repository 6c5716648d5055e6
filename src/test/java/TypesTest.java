/** Promises 1 to 12: the description of TYPES. */
public final class TypesTest extends Numbers {
    private TypesTest() {
    }

    public static void main(String[] args) {
        newObject();
        cls();
        clsRefused();
        face();
        under();
        underRefused();
        underOrderOfRefusals();
        field();
        fieldRefused();
        method();
        methodRefused();
        act();
        actUnusedNumbers();
        actRefused();
        actOrderOfRefusals();
        told();
        toldRefused();
        below();
        foundField();
        foundFieldWithConstantsAndManyWays();
        foundMethod();
        foundRefused();
        asksOfClass();
        asksByActions();
        asksOfFace();
        asksRefused();
        round();
        descriptionWhileThereAreWorlds();
        Due.end();
    }

    private static void newObject() {
        StartBench x = new StartBench();
        due("1 told TYPES", x.told(0, 0), 0);
        due("1 told WORLDS", x.told(0, 1), 0);
        due("1 gone", x.gone(), 0);
        due("1 round", x.round(0), NONE);
        due("1 below", x.below(0, 0), UNKNOWN);
        due("1 state", x.state(0, 0), UNKNOWN);
        due("1 world", x.world(), NO);
        StartBench y = new StartBench();
        x.cls(-1, false);
        due("1 another object", y.told(0, 0), 0);
    }

    private static void cls() {
        StartBench x = new StartBench();
        due("2 first", x.cls(-1, false), 0);
        due("2 second", x.cls(0, true), 1);
        due("2 third", x.cls(1, false), 2);
        due("2 above of 0", x.told(0, 4), NONE);
        due("2 above of 1", x.told(1, 4), 0);
        due("2 above of 2", x.told(2, 4), 1);
        due("2 no face", x.told(1, 2), 0);
        due("2 open of 0", x.told(0, 3), 0);
        due("2 open of 1", x.told(1, 3), 1);
    }

    private static void clsRefused() {
        StartBench x = new StartBench();
        due("2 above unknown in an empty bench", x.cls(0, false), UNKNOWN);
        x.face(true);
        x.cls(-1, false);
        due("2 above a face", x.cls(0, false), OUTSIDE);
        due("2 above -2", x.cls(-2, false), UNKNOWN);
        due("2 above NONE", x.cls(NONE, false), UNKNOWN);
        due("2 above 2", x.cls(2, false), UNKNOWN);
        due("2 above least", x.cls(Integer.MIN_VALUE, false), UNKNOWN);
        due("2 above most", x.cls(Integer.MAX_VALUE, false), UNKNOWN);
        due("2 refused ones change nothing", x.told(0, 0), 2);
        x.world();
        due("2 unknown ahead of state", x.cls(2, false), UNKNOWN);
        due("2 outside ahead of state", x.cls(0, false), OUTSIDE);
        due("2 state", x.cls(1, false), STATE);
        due("2 state without above", x.cls(-1, false), STATE);
        x.gone();
        for (int i = 2; i < 40; i++) {
            due("2 number " + i, x.cls(i - 1, false), i);
        }
        due("2 full", x.cls(1, false), FULL);
        due("2 full without above", x.cls(-1, false), FULL);
        due("2 unknown ahead of full", x.cls(40, false), UNKNOWN);
        due("2 outside ahead of full", x.cls(0, false), OUTSIDE);
        x.world();
        due("2 state ahead of full", x.cls(1, false), STATE);
        due("2 still 40", x.told(0, 0), 40);
    }

    private static void face() {
        StartBench x = new StartBench();
        due("3 first", x.face(true), 0);
        due("3 second", x.face(false), 1);
        due("3 is a face", x.told(0, 2), 1);
        due("3 has a default", x.told(0, 3), 1);
        due("3 has none", x.told(1, 3), 0);
        due("3 none above", x.told(0, 4), NONE);
        x.world();
        due("3 state", x.face(true), STATE);
        x.gone();
        for (int i = 2; i < 40; i++) {
            due("3 number " + i, x.face(i % 2 == 0), i);
        }
        due("3 full", x.face(true), FULL);
        x.world();
        due("3 state ahead of full", x.face(true), STATE);
        due("3 still 40", x.told(0, 0), 40);
    }

    private static void under() {
        StartBench x = new StartBench();
        x.cls(-1, false);
        for (int i = 1; i < 6; i++) {
            x.face(true);
        }
        due("4 first", x.under(0, 3), 1);
        due("4 second", x.under(0, 1), 2);
        due("4 of a face", x.under(1, 2), 1);
        due("4 not for the class", x.told(0, 5), 2);
        due("4 a face that is BELOW it already", x.under(0, 2), 3);
        due("4 fourth", x.under(0, 4), 4);
        due("4 full", x.under(0, 5), FULL);
        due("4 still four", x.told(0, 5), 4);
        due("4 behind those it is", x.asks(0, 0), 3);
    }

    private static void underRefused() {
        StartBench x = new StartBench();
        x.cls(-1, false);
        x.face(true);
        x.face(true);
        x.face(false);
        x.cls(0, false);
        for (int wild : WILD) {
            due("4 type " + wild, x.under(wild, 1), UNKNOWN);
            due("4 face " + wild, x.under(0, wild), UNKNOWN);
        }
        due("4 no face", x.under(4, 0), OUTSIDE);
        due("4 itself, a class", x.under(0, 0), OUTSIDE);
        due("4 itself", x.under(1, 1), NO);
        due("4 set", x.under(2, 1), 1);
        due("4 again", x.under(2, 1), NO);
        due("4 a round of two", x.under(1, 2), NO);
        due("4 set on", x.under(3, 2), 1);
        due("4 a round of three", x.under(1, 3), NO);
        due("4 nothing came of them", x.told(1, 5), 0);
        due("4 class", x.under(0, 3), 1);
        due("4 what the one above is under", x.under(4, 3), 1);
        due("4 class once more", x.under(0, 3), NO);
    }

    private static void underOrderOfRefusals() {
        StartBench x = new StartBench();
        x.face(true);
        for (int i = 1; i < 6; i++) {
            x.face(true);
        }
        x.cls(-1, false);
        for (int i = 1; i < 5; i++) {
            x.under(0, i);
        }
        due("4 full ahead of no, again", x.under(0, 1), FULL);
        due("4 full ahead of no, itself", x.under(0, 0), FULL);
        due("4 outside ahead of full", x.under(0, 6), OUTSIDE);
        x.world();
        due("4 unknown ahead of state", x.under(7, 1), UNKNOWN);
        due("4 unknown face ahead of state", x.under(5, 7), UNKNOWN);
        due("4 outside ahead of state", x.under(5, 6), OUTSIDE);
        due("4 state ahead of full", x.under(0, 5), STATE);
        due("4 state ahead of no", x.under(5, 5), STATE);
        due("4 state", x.under(6, 5), STATE);
        x.gone();
        due("4 as ahead of the world", x.under(6, 5), 1);
    }

    private static void field() {
        StartBench x = new StartBench();
        x.cls(-1, false);
        x.face(true);
        due("5 plain", x.field(0, 0, false, 5), 1);
        due("5 constant", x.field(0, 9, true, -7), 2);
        due("5 of a face", x.field(1, 9, true, Integer.MIN_VALUE), 1);
        due("5 told", x.told(0, 6), 2);
        for (int name = 1; name < 5; name++) {
            due("5 name " + name, x.field(0, name, false, 0), name + 2);
        }
        due("5 full", x.field(0, 6, false, 0), FULL);
        due("5 a method of the same name", x.method(0, 0), 1);
        x.world();
        due("5 plain's value doesn't matter", x.value(0, 0, 0), 0);
        due("5 constant's value", x.value(0, 0, 9), -7);
        due("5 the other's", x.value(0, 1, 9), Integer.MIN_VALUE);
    }

    private static void fieldRefused() {
        StartBench x = new StartBench();
        x.cls(-1, false);
        for (int wild : WILD) {
            due("5 type " + wild, x.field(wild, 1, false, 0), UNKNOWN);
            due("5 name " + wild, x.field(0, wild, false, 0), OUTSIDE);
        }
        due("5 type 1", x.field(1, 1, false, 0), UNKNOWN);
        due("5 name 10", x.field(0, 10, false, 0), OUTSIDE);
        due("5 unknown ahead of outside", x.field(1, 10, false, 0), UNKNOWN);
        x.field(0, 3, false, 0);
        due("5 again", x.field(0, 3, false, 0), NO);
        due("5 again, as a constant", x.field(0, 3, true, 4), NO);
        due("5 still one", x.told(0, 6), 1);
        for (int name = 4; name < 9; name++) {
            x.field(0, name, false, 0);
        }
        due("5 full ahead of no", x.field(0, 3, false, 0), FULL);
        due("5 outside ahead of full", x.field(0, -1, false, 0), OUTSIDE);
        x.world();
        due("5 unknown ahead of state", x.field(-1, 3, false, 0), UNKNOWN);
        due("5 outside ahead of state", x.field(0, 10, false, 0), OUTSIDE);
        due("5 state ahead of full", x.field(0, 3, false, 0), STATE);
    }

    private static void method() {
        StartBench x = new StartBench();
        x.face(false);
        x.cls(-1, false);
        due("6 first", x.method(0, 0), 1);
        due("6 second", x.method(0, 9), 2);
        due("6 third", x.method(0, 4), 3);
        due("6 of a class", x.method(1, 4), 1);
        due("6 told", x.told(0, 7), 3);
        due("6 fourth", x.method(0, 5), 4);
        due("6 full", x.method(0, 6), FULL);
        due("6 still four", x.told(0, 7), 4);
        due("6 a field of the same name", x.field(0, 9, false, 0), 1);
    }

    private static void methodRefused() {
        StartBench x = new StartBench();
        x.cls(-1, false);
        for (int wild : WILD) {
            due("6 type " + wild, x.method(wild, 1), UNKNOWN);
            due("6 name " + wild, x.method(0, wild), OUTSIDE);
        }
        due("6 type 1", x.method(1, 1), UNKNOWN);
        due("6 name 10", x.method(0, 10), OUTSIDE);
        due("6 unknown ahead of outside", x.method(1, 10), UNKNOWN);
        x.method(0, 7);
        due("6 again", x.method(0, 7), NO);
        x.method(0, 1);
        x.method(0, 2);
        x.method(0, 3);
        due("6 full ahead of no", x.method(0, 7), FULL);
        due("6 outside ahead of full", x.method(0, 10), OUTSIDE);
        x.world();
        due("6 unknown ahead of state", x.method(1, 7), UNKNOWN);
        due("6 outside ahead of state", x.method(0, -1), OUTSIDE);
        due("6 state ahead of full", x.method(0, 7), STATE);
    }

    private static void act() {
        StartBench x = new StartBench();
        x.cls(-1, false);
        x.face(true);
        x.method(0, 3);
        for (int i = 1; i <= 12; i++) {
            due("7 action " + i + " of the start", x.act(0, START, MARK, 0, 0, i), i);
        }
        due("7 full", x.act(0, START, MARK, 0, 0, 1), FULL);
        due("7 told", x.told(0, 8), 12);
        for (int i = 1; i <= 12; i++) {
            due("7 action " + i + " of a method", x.act(0, 3, LOOK, 1, 0, 0), i);
        }
        due("7 full method", x.act(0, 3, LOOK, 1, 0, 0), FULL);
        due("7 methods don't count for the start", x.told(1, 8), 0);
        due("7 start of a face", x.act(1, START, THROW, 0, 0, 19), 1);
        x.world();
        due("7 behind one another", x.touch(0, ASK, 0, 0, 0), 0);
        for (int i = 0; i < 12; i++) {
            due("7 place " + i, x.tape(0, i), i + 1);
        }
    }

    private static void actUnusedNumbers() {
        StartBench x = new StartBench();
        x.cls(-1, false);
        due("7 mark uses v alone", x.act(0, START, MARK, -9, 99, -1000), 1);
        due("7 read doesn't use v", x.act(0, START, READ, 0, 9, -77), 2);
        due("7 write uses any v", x.act(0, START, WRITE, 0, 0, Integer.MIN_VALUE), 3);
        due("7 call doesn't use v", x.act(0, START, CALL, 0, 5, -77), 4);
        due("7 make uses t alone", x.act(0, START, MAKE, 0, -1, -77), 5);
        due("7 ask uses t alone", x.act(0, START, ASK, 0, 10, -77), 6);
        due("7 look uses t alone", x.act(0, START, LOOK, 0, 10, -77), 7);
        due("7 throw uses v alone", x.act(0, START, THROW, 40, 10, 0), 8);
        due("7 catch uses v alone", x.act(0, START, CATCH, -1, -1, 22), 9);
        due("7 catch any", x.act(0, START, CATCH, -1, -1, -1), 10);
        due("7 throw 19", x.act(0, START, THROW, -1, -1, 19), 11);
        due("7 catch 0", x.act(0, START, CATCH, 1, 10, 0), 12);
    }

    private static void actRefused() {
        StartBench x = new StartBench();
        x.cls(-1, false);
        x.face(true);
        x.method(0, 3);
        for (int wild : WILD) {
            due("7 type " + wild, x.act(wild, START, MARK, 0, 0, 0), UNKNOWN);
            for (int kind = READ; kind <= LOOK; kind++) {
                due("7 kind " + kind + " t " + wild, x.act(0, START, kind, wild, 0, 0), UNKNOWN);
            }
            for (int kind = READ; kind <= CALL; kind++) {
                due("7 kind " + kind + " n " + wild, x.act(0, START, kind, 0, wild, 0), OUTSIDE);
            }
            due("7 kind " + wild, x.act(0, START, wild, 0, 0, 0), OUTSIDE);
            due("7 throw " + wild, x.act(0, START, THROW, 0, 0, wild), OUTSIDE);
            if (wild != -1) {
                due("7 catch " + wild, x.act(0, START, CATCH, 0, 0, wild), OUTSIDE);
                due("7 method " + wild, x.act(0, wild, MARK, 0, 0, 0), NO);
            }
        }
        due("7 kind 9", x.act(0, START, 9, 0, 0, 0), OUTSIDE);
        due("7 throw 20", x.act(0, START, THROW, 0, 0, 20), OUTSIDE);
        due("7 catch 23", x.act(0, START, CATCH, 0, 0, 23), OUTSIDE);
        due("7 n 10", x.act(0, START, READ, 0, 10, 0), OUTSIDE);
        due("7 t 2", x.act(0, START, ASK, 2, 0, 0), UNKNOWN);
        due("7 no such method", x.act(0, 4, MARK, 0, 0, 0), NO);
        due("7 method 10", x.act(0, 10, MARK, 0, 0, 0), NO);
        due("7 of another type", x.act(1, 3, MARK, 0, 0, 0), NO);
        x.cls(0, false);
        due("7 of the one above", x.act(2, 3, MARK, 0, 0, 0), NO);
        due("7 nothing came of them", x.told(0, 8), 0);
    }

    private static void actOrderOfRefusals() {
        StartBench x = new StartBench();
        x.cls(-1, false);
        due("7 unknown t ahead of n", x.act(0, START, READ, 5, 10, 0), UNKNOWN);
        due("7 unknown type ahead of kind", x.act(5, START, 9, 0, 0, 0), UNKNOWN);
        due("7 unknown t ahead of no", x.act(0, 1, ASK, 5, 0, 0), UNKNOWN);
        due("7 outside ahead of no", x.act(0, 1, READ, 0, 10, 0), OUTSIDE);
        due("7 outside v ahead of no", x.act(0, 1, THROW, 0, 0, 20), OUTSIDE);
        for (int i = 0; i < 12; i++) {
            x.act(0, START, MARK, 0, 0, 0);
        }
        due("7 unknown ahead of full", x.act(0, START, ASK, 1, 0, 0), UNKNOWN);
        due("7 outside ahead of full", x.act(0, START, 9, 0, 0, 0), OUTSIDE);
        x.world();
        due("7 unknown ahead of state", x.act(0, START, ASK, 1, 0, 0), UNKNOWN);
        due("7 outside ahead of state", x.act(0, START, CATCH, 0, 0, -2), OUTSIDE);
        due("7 state ahead of full", x.act(0, START, MARK, 0, 0, 0), STATE);
        due("7 state ahead of no", x.act(0, 3, MARK, 0, 0, 0), STATE);
        x.gone();
        due("7 full once more", x.act(0, START, MARK, 0, 0, 0), FULL);
    }

    private static void told() {
        StartBench x = new StartBench();
        x.cls(-1, true);
        x.cls(0, false);
        x.face(true);
        x.face(false);
        x.under(3, 2);
        x.under(1, 3);
        x.field(1, 4, true, 3);
        x.field(1, 5, false, 3);
        x.method(1, 4);
        x.act(1, START, MARK, 0, 0, 0);
        x.act(1, 4, MARK, 0, 0, 0);
        x.act(1, 4, MARK, 0, 0, 0);
        int[][] rows = {{0, 1, NONE, 0, 0, 0, 0, 1}, {0, 0, 0, 1, 2, 1, 1, 0},
            {1, 1, NONE, 0, 0, 0, 0, 2}, {1, 0, NONE, 1, 0, 0, 0, 1}};
        for (int type = 0; type < 4; type++) {
            for (int what = 2; what <= 9; what++) {
                due("8 type " + type + " what " + what, x.told(type, what), rows[type][what - 2]);
            }
        }
        due("8 types", x.told(0, 0), 4);
        due("8 worlds", x.told(0, 1), 0);
        x.world();
        x.world();
        due("8 worlds of any type", x.told(99, 1), 2);
        due("8 types of any type", x.told(-1, 0), 4);
        due("8 a class that is under a face by the one above", x.told(2, 9), 2);
    }

    private static void toldRefused() {
        StartBench x = new StartBench();
        x.cls(-1, false);
        for (int wild : WILD) {
            due("8 what " + wild, x.told(0, wild), OUTSIDE);
            due("8 outside ahead of unknown " + wild, x.told(wild, wild), OUTSIDE);
            for (int what = 2; what <= 9; what++) {
                due("8 what " + what + " of " + wild, x.told(wild, what), UNKNOWN);
            }
        }
        due("8 what 10", x.told(0, 10), OUTSIDE);
        due("8 type 1", x.told(1, 9), UNKNOWN);
    }

    private static void below() {
        StartBench x = new StartBench();
        x.cls(-1, false);
        x.cls(0, false);
        x.cls(1, false);
        x.face(true);
        x.face(true);
        due("9 by two steps", x.below(2, 0), 1);
        due("9 by one", x.below(1, 0), 1);
        due("9 not the other way", x.below(0, 1), 0);
        due("9 not itself", x.below(1, 1), 0);
        due("9 not yet", x.below(2, 4), 0);
        x.under(0, 3);
        due("9 by above and under", x.below(2, 3), 1);
        x.under(3, 4);
        due("9 what came later", x.below(2, 4), 1);
        due("9 face below face", x.below(3, 4), 1);
        due("9 face above", x.below(4, 3), 0);
        due("9 told", x.told(4, 9), 4);
        for (int wild : WILD) {
            due("9 type " + wild, x.below(wild, 0), UNKNOWN);
            due("9 other " + wild, x.below(0, wild), UNKNOWN);
        }
        due("9 type 5", x.below(5, 0), UNKNOWN);
        due("9 other 5", x.below(0, 5), UNKNOWN);
        StartBench y = new StartBench();
        for (int i = 0; i < 40; i++) {
            y.cls(i - 1, false);
        }
        due("9 the longest way", y.below(39, 0), 1);
        due("9 39 are below", y.told(0, 9), 39);
        due("9 none is below", y.told(39, 9), 0);
    }

    private static void foundField() {
        StartBench x = new StartBench();
        x.cls(-1, false);
        x.cls(0, false);
        x.face(false);
        x.face(false);
        x.face(false);
        x.under(1, 3);
        x.under(1, 2);
        x.under(2, 4);
        due("10 none", x.found(1, 5, false), NONE);
        x.field(0, 5, false, 0);
        due("10 of the one above", x.found(1, 5, false), 0);
        x.field(4, 5, false, 0);
        due("10 of a face of a face ahead of the one above", x.found(1, 5, false), 4);
        x.field(2, 5, true, 0);
        due("10 of the face ahead of its faces", x.found(1, 5, false), 2);
        x.field(3, 5, false, 0);
        due("10 of the first face", x.found(1, 5, false), 3);
        x.field(1, 5, false, 0);
        due("10 its own", x.found(1, 5, false), 1);
        due("10 the one above finds its own", x.found(0, 5, false), 0);
        due("10 a face finds by its faces", x.found(2, 5, false), 2);
        due("10 another name", x.found(1, 4, false), NONE);
    }

    private static void foundFieldWithConstantsAndManyWays() {
        StartBench x = new StartBench();
        x.cls(-1, false);
        x.face(true);
        x.face(true);
        x.face(true);
        x.under(0, 1);
        x.under(1, 3);
        x.under(0, 2);
        x.field(2, 0, true, 2);
        x.field(3, 0, true, 3);
        due("10 the first face's face ahead of the second face", x.found(0, 0, false), 3);
        x.cls(0, false);
        x.face(false);
        x.field(5, 0, false, 2);
        due("10 above by its face", x.found(4, 0, false), 3);
        x.under(4, 5);
        due("10 own face ahead of above", x.found(4, 0, false), 5);
        due("10 a field is no method", x.found(4, 0, true), NONE);
    }

    private static void foundMethod() {
        StartBench x = new StartBench();
        x.cls(-1, false);
        x.cls(0, false);
        x.cls(1, false);
        x.face(true);
        x.face(true);
        x.under(2, 3);
        x.under(3, 4);
        x.method(3, 6);
        x.method(4, 7);
        due("10 a class doesn't find a face's", x.found(2, 6, true), NONE);
        due("10 a face finds its own", x.found(3, 6, true), 3);
        due("10 a face doesn't find its face's", x.found(3, 7, true), NONE);
        x.method(0, 6);
        due("10 by two steps above", x.found(2, 6, true), 0);
        x.method(1, 6);
        due("10 by one step", x.found(2, 6, true), 1);
        x.method(2, 6);
        due("10 its own", x.found(2, 6, true), 2);
        due("10 the first's", x.found(0, 6, true), 0);
        due("10 a method is no field", x.found(2, 6, false), NONE);
    }

    private static void foundRefused() {
        StartBench x = new StartBench();
        x.cls(-1, false);
        for (int wild : WILD) {
            due("10 type " + wild, x.found(wild, 1, false), UNKNOWN);
            due("10 name " + wild, x.found(0, wild, false), OUTSIDE);
            due("10 name of a method " + wild, x.found(0, wild, true), OUTSIDE);
            due("10 unknown ahead " + wild, x.found(wild, wild, true), UNKNOWN);
        }
        due("10 name 10", x.found(0, 10, false), OUTSIDE);
        due("10 type 1", x.found(1, 0, true), UNKNOWN);
        due("10 name 9", x.found(0, 9, false), NONE);
    }

    private static void asksOfClass() {
        StartBench x = new StartBench();
        x.cls(-1, false);
        x.cls(0, false);
        x.face(true);
        x.face(false);
        x.face(true);
        x.face(true);
        x.face(true);
        x.under(1, 3);
        x.under(3, 4);
        x.under(1, 5);
        x.under(5, 4);
        x.under(5, 2);
        x.under(0, 6);
        asksAre("11 above, faces as started", x, 1, 0, 4, 2, 5);
        asksAre("11 the one above has its own", x, 0, 6);
        asksAre("11 a face asks for no faces", x, 5);
        x.act(1, START, ASK, 5, 0, 0);
        x.act(1, START, ASK, 6, 0, 0);
        x.act(1, START, ASK, 1, 0, 0);
        x.act(1, START, ASK, 6, 0, 0);
        asksAre("11 each once, not itself", x, 1, 0, 4, 2, 5, 6);
        x.under(4, 6);
        asksAre("11 a face told to be under another one meanwhile", x, 1, 0, 6, 4, 2, 5);
    }

    private static void asksByActions() {
        StartBench x = new StartBench();
        x.cls(-1, false);
        x.cls(-1, false);
        x.cls(1, false);
        x.cls(-1, true);
        x.face(false);
        x.field(1, 0, false, 0);
        x.field(1, 1, true, 8);
        x.method(1, 2);
        x.act(1, 2, ASK, 3, 0, 0);
        x.act(0, START, LOOK, 4, 0, 0);
        x.act(0, START, READ, 2, 1, 0);
        x.act(0, START, WRITE, 2, 1, 0);
        x.act(0, START, READ, 2, 9, 0);
        x.act(0, START, CALL, 2, 9, 0);
        x.act(0, START, MAKE, 3, 0, 0);
        x.act(0, START, MAKE, 4, 0, 0);
        asksAre("11 looks, constants, ruled ones", x, 0);
        x.act(0, START, CATCH, 0, 0, -1);
        x.act(0, START, CALL, 2, 2, 0);
        asksAre("11 the one that has the method", x, 0, 1);
        x.act(0, START, MAKE, 2, 0, 0);
        x.act(0, START, THROW, 0, 0, 3);
        x.act(0, START, ASK, 4, 0, 0);
        asksAre("11 behind a throw, too; a face without default asked", x, 0, 1, 2, 4);
        x.act(3, START, WRITE, 2, 0, 0);
        asksAre("11 write of a plain one", x, 3, 1);
        x.act(4, START, READ, 2, 0, 0);
        asksAre("11 read of a plain one", x, 4, 1);
    }

    private static void asksOfFace() {
        StartBench x = new StartBench();
        x.face(true);
        x.face(true);
        x.cls(-1, false);
        x.under(1, 0);
        asksAre("11 a face starts no others", x, 1);
        x.act(1, START, MAKE, 2, 0, 0);
        x.act(1, START, ASK, 0, 0, 0);
        asksAre("11 but by its body", x, 1, 2, 0);
        x.under(2, 1);
        asksAre("11 a class by its face's face", x, 2, 0, 1);
    }

    private static void asksRefused() {
        StartBench x = new StartBench();
        x.cls(-1, false);
        x.cls(0, false);
        for (int wild : WILD) {
            due("11 type " + wild, x.asks(wild, 0), UNKNOWN);
            due("11 place " + wild, x.asks(1, wild), NONE);
        }
        due("11 type 2", x.asks(2, 0), UNKNOWN);
        due("11 place 1", x.asks(1, 1), NONE);
    }

    private static void round() {
        StartBench x = new StartBench();
        for (int i = 0; i < 5; i++) {
            x.cls(-1, false);
        }
        x.act(4, START, ASK, 1, 0, 0);
        x.act(1, START, ASK, 2, 0, 0);
        x.act(2, START, ASK, 0, 0, 0);
        due("12 a way is no round", x.round(0), NONE);
        x.act(3, START, ASK, 3, 0, 0);
        due("12 itself is none", x.round(0), NONE);
        x.act(2, START, ASK, 4, 0, 0);
        due("12 by numbers", x.round(0), 1);
        due("12 second", x.round(1), 2);
        due("12 third", x.round(2), 4);
        due("12 no more", x.round(3), NONE);
        for (int wild : WILD) {
            due("12 place " + wild, x.round(wild), NONE);
        }
        x.cls(0, false);
        x.act(0, START, ASK, 5, 0, 0);
        due("12 by the one above", x.round(0), 0);
        due("12 the one below", x.round(4), 5);
        due("12 five are in rounds", x.round(5), NONE);
    }

    private static void descriptionWhileThereAreWorlds() {
        StartBench x = new StartBench();
        x.cls(-1, false);
        x.cls(0, false);
        x.field(0, 3, false, 0);
        x.act(0, START, ASK, 1, 0, 0);
        x.world();
        due("8 told goes on", x.told(1, 4), 0);
        due("9 below goes on", x.below(1, 0), 1);
        due("10 found goes on", x.found(1, 3, false), 0);
        due("11 asks goes on", x.asks(1, 0), 0);
        due("12 round goes on", x.round(1), 1);
    }
}
