import java.util.Random;

/**
 * Holds the program against the Model, call by call, over runs of up to 512 calls that come from
 * fixed seeds, in descriptions of several shapes. Every answer of every promise is compared.
 */
public final class ModelTest extends Numbers {
    private static final int RUNS = 3000;
    /** What an object answers behind it is free. */
    private static final int LAST_CALL = 512;
    /** What spent tells at a 5: of ACTIONS, BODIES, FAILURES; and how many touches came to it by that. */
    private static final int[] LIMITS = {1000, 30, 41};
    private static final int[] OVER = new int[LIMITS.length];

    private final Random dice;
    private final StartBench bench = new StartBench();
    private final Model model = new Model();
    private final int seed;
    /** One number in so many is a wild one. */
    private final int tame;
    private int calls;
    private int types;
    private int worlds;

    private ModelTest(int seed) {
        this.seed = seed;
        this.dice = new Random(seed);
        this.tame = seed % 11 == 10 ? 6 : 60;
    }

    public static void main(String[] args) {
        for (int seed = 0; seed < RUNS; seed++) {
            new ModelTest(seed).run();
        }
        for (int limit = 0; limit < LIMITS.length; limit++) {
            Due.isTrue("touches came to 5 by " + limit + ": " + OVER[limit], OVER[limit] > RUNS / 10);
        }
        Due.end();
    }

    private void run() {
        if (seed % 4 == 2) {
            describeDeep();
        } else {
            describe();
        }
        while (calls < LAST_CALL - 60) {
            use(90 + dice.nextInt(150));
            same("gone", bench.gone(), model.gone());
            worlds = 0;
            for (int i = dice.nextInt(12); i >= 0; i--) {
                describeOne();
            }
            lookAtDescription(4);
        }
        Due.isTrue("seed " + seed + " makes " + calls + " calls", calls <= LAST_CALL);
    }

    private void same(String call, int got, int want) {
        calls++;
        Due.due("seed " + seed + " call " + calls + " " + call, got, want);
    }

    private int wildOr(int bound) {
        return dice.nextInt(tame) == 0 ? WILD[dice.nextInt(WILD.length)] : dice.nextInt(bound);
    }

    private int type() {
        return wildOr(Math.max(1, types));
    }

    private int world() {
        return wildOr(Math.max(1, worlds));
    }

    private int name() {
        return wildOr(seed % 2 == 0 ? 3 : 10);
    }

    private int place(int bound) {
        return dice.nextInt(20) == 0 ? WILD[dice.nextInt(WILD.length)] : dice.nextInt(bound);
    }

    private void describe() {
        int wanted = 2 + dice.nextInt(seed % 5 == 0 ? 40 : 8);
        for (int i = 0; i < wanted; i++) {
            addType();
        }
        for (int i = dice.nextInt(40) + 40; i > 0; i--) {
            describeOne();
        }
        lookAtDescription(20);
    }

    /** Two TYPES of four METHODS, each of which mostly calls those behind it: a touch is near what it may spend. */
    private void describeDeep() {
        types = 2;
        for (int type = 0; type < types; type++) {
            same("cls", bench.cls(-1, false), model.cls(-1, false));
            for (int name = 0; name < 4; name++) {
                same("method " + type + " " + name, bench.method(type, name), model.method(type, name));
            }
        }
        int quiet = dice.nextInt(8) + 1;
        for (int from = 0; from < 8; from++) {
            for (int i = dice.nextInt(8) + 3; i > 0; i--) {
                if (dice.nextInt(quiet) == 0) {
                    act(from / 4, from % 4, CATCH, 0, 0, -1);
                    act(from / 4, from % 4, THROW, 0, 0, i);
                }
                int to = dice.nextInt(60) == 0 ? dice.nextInt(8) : from + 1 + dice.nextInt(3);
                act(from / 4, from % 4, to > 7 ? MARK : CALL, to > 7 ? 0 : to / 4, to % 4, i);
            }
        }
    }

    private void act(int type, int method, int kind, int t, int n, int v) {
        same("act " + type + " " + method + " " + kind + " " + t + " " + n + " " + v,
            bench.act(type, method, kind, t, n, v), model.act(type, method, kind, t, n, v));
    }

    private void addType() {
        if (dice.nextInt(3) == 0) {
            boolean hasDefault = dice.nextInt(3) > 0;
            same("face", bench.face(hasDefault), model.face(hasDefault));
        } else {
            int above = dice.nextInt(3) == 0 ? -1 : type();
            boolean open = dice.nextInt(4) == 0;
            same("cls " + above, bench.cls(above, open), model.cls(above, open));
        }
        types = model.told(0, 0);
    }

    private void describeOne() {
        int which = dice.nextInt(20);
        int type = type();
        int name = name();
        if (which < 3) {
            int face = type();
            same("under " + type + " " + face, bench.under(type, face), model.under(type, face));
        } else if (which < 5) {
            boolean constant = dice.nextInt(3) == 0;
            int value = wildOr(9);
            same("field " + type + " " + name, bench.field(type, name, constant, value),
                model.field(type, name, constant, value));
        } else if (which < 7) {
            same("method " + type + " " + name, bench.method(type, name), model.method(type, name));
        } else if (which == 7 && dice.nextInt(6) == 0) {
            addType();
        } else {
            addAction(type, name);
        }
    }

    private void addAction(int type, int name) {
        int kind = dice.nextInt(80) == 0 ? place(9) : dice.nextInt(9);
        if (seed % 3 == 0 && dice.nextInt(3) == 0) {
            kind = CALL;
        }
        int method = dice.nextInt(3) == 0 ? name() : START;
        int t = type();
        int v = kind == CATCH ? (dice.nextInt(2) == 0 ? -1 : wildOr(24)) : wildOr(21);
        if (seed % 4 == 1 && kind == THROW) {
            act(type, method, CATCH, t, name, -1);
        }
        act(type, method, kind, t, name, v);
    }

    private void lookAtDescription(int times) {
        for (int i = 0; i < times; i++) {
            int type = type();
            int other = type();
            int name = name();
            int what = place(10);
            int at = place(6);
            boolean method = dice.nextBoolean();
            switch (dice.nextInt(5)) {
                case 0:
                    same("told " + type + " " + what, bench.told(type, what), model.told(type, what));
                    break;
                case 1:
                    same("below " + type + " " + other, bench.below(type, other), model.below(type, other));
                    break;
                case 2:
                    same("found " + type + " " + name, bench.found(type, name, method), model.found(type, name, method));
                    break;
                case 3:
                    same("asks " + type + " " + at, bench.asks(type, at), model.asks(type, at));
                    break;
                default:
                    same("round " + at, bench.round(at), model.round(at));
            }
        }
    }

    private void use(int times) {
        addWorld();
        for (int i = 0; i < times && calls < LAST_CALL - 40; i++) {
            int which = dice.nextInt(20);
            if (which == 0) {
                addWorld();
            } else if (which == 1) {
                describeOne();
            } else if (which == 2) {
                lookAtDescription(1);
            } else if (which < 10) {
                touchOne();
            } else {
                lookAtWorld();
            }
        }
    }

    private void addWorld() {
        same("world", bench.world(), model.world());
        worlds = model.told(0, 1);
    }

    private void touchOne() {
        int world = world();
        int kind = dice.nextInt(30) == 0 ? place(9) : 1 + dice.nextInt(5);
        int t = type();
        int n = name();
        int v = wildOr(9);
        String call = world + " " + kind + " " + t + " " + n + " " + v;
        int came = model.foretell(world, kind, t, n, v);
        if (dice.nextInt(3) == 0) {
            same("foretell " + call, bench.foretell(world, kind, t, n, v), came);
        }
        same("touch " + call, bench.touch(world, kind, t, n, v), model.touch(world, kind, t, n, v));
        if (dice.nextBoolean()) {
            int i = place(2);
            same("failed " + world + " " + i, bench.failed(world, i), model.failed(world, i));
        }
        int what = place(4);
        same("spent " + world + " " + what, bench.spent(world, what), model.spent(world, what));
        for (int limit = 0; came == TO_OVER && limit < LIMITS.length; limit++) {
            OVER[limit] += model.spent(world, limit) == LIMITS[limit] ? 1 : 0;
        }
    }

    private void lookAtWorld() {
        int world = world();
        int other = world();
        int type = type();
        int name = name();
        int at = dice.nextInt(4) == 0 ? -1 : place(12);
        int last = model.tape(world, -1) - 1 - dice.nextInt(3);
        switch (dice.nextInt(9)) {
            case 0:
                same("state", bench.state(world, type), model.state(world, type));
                break;
            case 1:
                same("began", bench.began(world, at), model.began(world, at));
                break;
            case 2:
                same("tape " + world + " " + at, bench.tape(world, at), model.tape(world, at));
                break;
            case 3:
                same("tape " + world + " " + last, bench.tape(world, last), model.tape(world, last));
                break;
            case 4:
                same("value", bench.value(world, type, name), model.value(world, type, name));
                break;
            case 5:
                same("failed", bench.failed(world, at), model.failed(world, at));
                break;
            case 6:
                same("spent", bench.spent(world, at), model.spent(world, at));
                break;
            case 7:
                same("many", bench.many(world, at), model.many(world, at));
                break;
            default:
                same("differs " + world + " " + other, bench.differs(world, other), model.differs(world, other));
        }
    }
}
