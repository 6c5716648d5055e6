import java.util.Random;

/**
 * Holds the program against the Model, call by call, over runs of up to 512 calls that come from
 * fixed seeds, in descriptions of several shapes. Every answer of every promise is compared.
 */
public final class ModelTest extends Numbers {
    private static final int RUNS = 3000;
    /** What an object answers behind it is free. */
    private static final int LAST_CALL = 512;

    private final Random dice;
    private final StartBench bench = new StartBench();
    private final Model model = new Model();
    private final int seed;
    private int calls;
    private int types;
    private int worlds;

    private ModelTest(int seed) {
        this.seed = seed;
        this.dice = new Random(seed);
    }

    public static void main(String[] args) {
        int over = 0;
        for (int seed = 0; seed < RUNS; seed++) {
            over += new ModelTest(seed).run();
        }
        Due.isTrue("some of the touches came to 5", over > RUNS / 10);
        Due.end();
    }

    /** Answers how many touches came to 5. */
    private int run() {
        int over = 0;
        describe();
        while (calls < LAST_CALL - 60) {
            over += use(90 + dice.nextInt(150));
            same("gone", bench.gone(), model.gone());
            worlds = 0;
            for (int i = dice.nextInt(12); i >= 0; i--) {
                describeOne();
            }
            lookAtDescription(4);
        }
        Due.isTrue("seed " + seed + " makes " + calls + " calls", calls <= LAST_CALL);
        return over;
    }

    private void same(String call, int got, int want) {
        calls++;
        Due.due("seed " + seed + " call " + calls + " " + call, got, want);
    }

    private int type() {
        return dice.nextInt(60) == 0 ? WILD[dice.nextInt(WILD.length)] : dice.nextInt(Math.max(1, types));
    }

    private int world() {
        return dice.nextInt(60) == 0 ? WILD[dice.nextInt(WILD.length)] : dice.nextInt(Math.max(1, worlds));
    }

    private int name() {
        return dice.nextInt(60) == 0 ? WILD[dice.nextInt(WILD.length)] : dice.nextInt(seed % 2 == 0 ? 3 : 10);
    }

    private int place(int bound) {
        return dice.nextInt(20) == 0 ? WILD[dice.nextInt(WILD.length)] : dice.nextInt(bound);
    }

    private void describe() {
        int wanted = 2 + dice.nextInt(seed % 5 == 0 ? 40 : 8);
        for (int i = 0; i < wanted; i++) {
            addType();
        }
        for (int i = dice.nextInt(40) + 40; i > 0; i--) {
            describeOne();
        }
        lookAtDescription(20);
    }

    private void addType() {
        if (dice.nextInt(3) == 0) {
            boolean hasDefault = dice.nextInt(3) > 0;
            same("face", bench.face(hasDefault), model.face(hasDefault));
        } else {
            int above = dice.nextInt(3) == 0 ? -1 : type();
            boolean open = dice.nextInt(4) == 0;
            same("cls " + above, bench.cls(above, open), model.cls(above, open));
        }
        types = model.told(0, 0);
    }

    private void describeOne() {
        int which = dice.nextInt(20);
        int type = type();
        int name = name();
        if (which < 3) {
            int face = type();
            same("under " + type + " " + face, bench.under(type, face), model.under(type, face));
        } else if (which < 5) {
            boolean constant = dice.nextInt(3) == 0;
            int value = dice.nextInt(9) - 4;
            same("field " + type + " " + name, bench.field(type, name, constant, value),
                model.field(type, name, constant, value));
        } else if (which < 7) {
            same("method " + type + " " + name, bench.method(type, name), model.method(type, name));
        } else if (which == 7 && dice.nextInt(6) == 0) {
            addType();
        } else {
            addAction(type, name);
        }
    }

    private void addAction(int type, int name) {
        int kind = dice.nextInt(80) == 0 ? place(9) : dice.nextInt(9);
        if (seed % 3 == 0 && dice.nextInt(3) == 0) {
            kind = CALL;
        }
        int method = dice.nextInt(3) == 0 ? name() : START;
        int t = type();
        int v = kind == CATCH ? (dice.nextInt(2) == 0 ? -1 : dice.nextInt(24)) : dice.nextInt(21);
        if (seed % 4 == 1 && kind == THROW) {
            same("act catch", bench.act(type, method, CATCH, t, name, -1), model.act(type, method, CATCH, t, name, -1));
        }
        same("act " + type + " " + method + " " + kind + " " + t + " " + name + " " + v,
            bench.act(type, method, kind, t, name, v), model.act(type, method, kind, t, name, v));
    }

    private void lookAtDescription(int times) {
        for (int i = 0; i < times; i++) {
            int type = type();
            int other = type();
            int name = name();
            int what = place(10);
            int at = place(6);
            boolean method = dice.nextBoolean();
            switch (dice.nextInt(5)) {
                case 0:
                    same("told " + type + " " + what, bench.told(type, what), model.told(type, what));
                    break;
                case 1:
                    same("below " + type + " " + other, bench.below(type, other), model.below(type, other));
                    break;
                case 2:
                    same("found " + type + " " + name, bench.found(type, name, method), model.found(type, name, method));
                    break;
                case 3:
                    same("asks " + type + " " + at, bench.asks(type, at), model.asks(type, at));
                    break;
                default:
                    same("round " + at, bench.round(at), model.round(at));
            }
        }
    }

    /** Answers how many touches came to 5. */
    private int use(int times) {
        int over = 0;
        addWorld();
        for (int i = 0; i < times && calls < LAST_CALL - 40; i++) {
            int which = dice.nextInt(20);
            if (which == 0) {
                addWorld();
            } else if (which == 1) {
                describeOne();
            } else if (which == 2) {
                lookAtDescription(1);
            } else if (which < 10) {
                over += touchOne();
            } else {
                lookAtWorld();
            }
        }
        return over;
    }

    private void addWorld() {
        same("world", bench.world(), model.world());
        worlds = model.told(0, 1);
    }

    private int touchOne() {
        int world = world();
        int kind = dice.nextInt(30) == 0 ? place(9) : 1 + dice.nextInt(5);
        int t = type();
        int n = name();
        int v = dice.nextInt(9);
        String call = world + " " + kind + " " + t + " " + n + " " + v;
        int came = model.foretell(world, kind, t, n, v);
        if (dice.nextInt(3) == 0) {
            same("foretell " + call, bench.foretell(world, kind, t, n, v), came);
        }
        same("touch " + call, bench.touch(world, kind, t, n, v), model.touch(world, kind, t, n, v));
        if (dice.nextBoolean()) {
            int i = place(2);
            same("failed " + world + " " + i, bench.failed(world, i), model.failed(world, i));
        }
        int what = place(4);
        same("spent " + world + " " + what, bench.spent(world, what), model.spent(world, what));
        return came == TO_OVER ? 1 : 0;
    }

    private void lookAtWorld() {
        int world = world();
        int other = world();
        int type = type();
        int name = name();
        int at = dice.nextInt(4) == 0 ? -1 : place(12);
        int last = model.tape(world, -1) - 1 - dice.nextInt(3);
        switch (dice.nextInt(9)) {
            case 0:
                same("state", bench.state(world, type), model.state(world, type));
                break;
            case 1:
                same("began", bench.began(world, at), model.began(world, at));
                break;
            case 2:
                same("tape " + world + " " + at, bench.tape(world, at), model.tape(world, at));
                break;
            case 3:
                same("tape " + world + " " + last, bench.tape(world, last), model.tape(world, last));
                break;
            case 4:
                same("value", bench.value(world, type, name), model.value(world, type, name));
                break;
            case 5:
                same("failed", bench.failed(world, at), model.failed(world, at));
                break;
            case 6:
                same("spent", bench.spent(world, at), model.spent(world, at));
                break;
            case 7:
                same("many", bench.many(world, at), model.many(world, at));
                break;
            default:
                same("differs " + world + " " + other, bench.differs(world, other), model.differs(world, other));
        }
    }
}
