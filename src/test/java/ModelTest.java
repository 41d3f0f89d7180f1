import java.util.Random;

/** Runs of 512 calls, always the same ones, on the class and on the model: every answer must be alike. */
public final class ModelTest {
    private static final int RUNS = 400;
    private static final int CALLS = 512;
    private static final int[] EDGES = {
        Integer.MIN_VALUE, -1000001, -2, -1, 0, 1, 5, 6, 7, 8, 299, 300, 999999, 1000000, 1000001, Integer.MAX_VALUE
    };

    private final Checks c = new Checks();
    private final Random random;
    private final boolean manyTuples;
    private final WindowMeters x = new WindowMeters();
    private final Model m = new Model();
    private boolean right = true;

    private ModelTest(int run) {
        random = new Random(run);
        manyTuples = run % 4 == 0;
    }

    public static void main(String[] args) {
        for (int run = 0; run < RUNS; run++) {
            ModelTest test = new ModelTest(run);
            for (int call = 0; call < CALLS && test.right; call++) {
                test.step("run " + run + ", call " + call + ", ");
            }
            test.c.end();
        }
    }

    private int edge() {
        return EDGES[random.nextInt(EDGES.length)];
    }

    private int mostly(int usual) {
        return random.nextInt(25) == 0 ? edge() : usual;
    }

    private int someTime() {
        if (random.nextInt(200) == 0) {
            return 1000000 - random.nextInt(20);
        }
        return mostly(m.now() + random.nextInt(5) * random.nextInt(4));
    }

    private int someLength() {
        return mostly(random.nextInt(random.nextBoolean() ? 4 : 60));
    }

    private int someValue() {
        return mostly(random.nextInt(7) - 3);
    }

    private void step(String name) {
        int kind = random.nextInt(manyTuples ? 12 : 24);
        if (kind < 8) {
            tellTuple(name);
        } else if (kind == 8) {
            tellOther(name);
        } else {
            ask(name);
        }
    }

    private void tellTuple(String name) {
        int time = someTime();
        int key = mostly(random.nextInt(8));
        int value = someValue();
        compare(name + "tuple(" + time + ", " + key + ", " + value + ")",
                () -> m.tuple(time, key, value), () -> x.tuple(time, key, value));
    }

    private void tellOther(String name) {
        int time = someTime();
        int kind = mostly(random.nextInt(6));
        int n = someLength();
        switch (random.nextInt(8)) {
            case 0:
                compare(name + "tick(" + time + ")", () -> told(() -> m.tick(time)), () -> told(() -> x.tick(time)));
                break;
            case 1:
                if (!manyTuples && random.nextInt(4) == 0) {
                    compare(name + "clear()", () -> told(m::clear), () -> told(x::clear));
                }
                break;
            default:
                compare(name + "window(" + kind + ", " + n + ")", () -> m.window(kind, n), () -> x.window(kind, n));
                break;
        }
    }

    private void ask(String name) {
        int w = mostly(random.nextInt(6));
        int what = mostly(random.nextInt(4));
        int k = mostly(random.nextInt(m.tupleCount() + 1));
        int v = someValue();
        switch (random.nextInt(6)) {
            case 0:
                compare(name + "meter(" + w + ", " + what + ")", () -> m.meter(w, what), () -> x.meter(w, what));
                break;
            case 1:
                compare(name + "kth(" + w + ", " + k + ")", () -> m.kth(w, k), () -> x.kth(w, k));
                break;
            case 2:
                compare(name + "frequent(" + w + ")", () -> m.frequent(w), () -> x.frequent(w));
                break;
            case 3:
                compare(name + "below(" + w + ", " + v + ")", () -> m.below(w, v), () -> x.below(w, v));
                break;
            case 4:
                compare(name + "has(" + w + ", " + k + ")", () -> m.has(w, k), () -> x.has(w, k));
                break;
            default:
                compare(name + "now()", m::now, x::now);
                break;
        }
    }

    private static String told(Checks.Act act) {
        act.run();
        return "nothing";
    }

    private void compare(String name, Checks.Call model, Checks.Call real) {
        Object want = Checks.outcome(model);
        Object got = Checks.outcome(real);
        c.due(name, want, got);
        right = want.equals(got);
    }
}
