public final class Promise04TupleTest {
    private static final Class<IllegalArgumentException> ILLEGAL = IllegalArgumentException.class;

    public static void main(String[] args) {
        Checks c = new Checks();
        timesAndKeys(c);
        timeBehindTick(c);
        full(c);
        c.end();
    }

    private static void timesAndKeys(Checks c) {
        WindowMeters x = new WindowMeters();
        x.window(1, 1000000);
        wrong(c, x, -1, 0);
        wrong(c, x, Integer.MIN_VALUE, 0);
        wrong(c, x, 1000001, 0);
        wrong(c, x, Integer.MAX_VALUE, 0);
        wrong(c, x, 5, -1);
        wrong(c, x, 5, 8);
        wrong(c, x, 5, Integer.MIN_VALUE);
        wrong(c, x, 5, Integer.MAX_VALUE);
        c.due("first", 1, x.tuple(0, 0, Integer.MIN_VALUE));
        c.due("same time", 2, x.tuple(0, 7, Integer.MAX_VALUE));
        c.due("later", 3, x.tuple(5, 3, 0));
        c.due("now goes with it", 5, x.now());
        wrong(c, x, 4, 3);
        c.due("same time as now", 4, x.tuple(5, 3, 1));
        c.due("greatest time", 5, x.tuple(1000000, 3, 2));
        c.due("greatest time again", 6, x.tuple(1000000, 3, 2));
        wrong(c, x, 1000001, 3);
        wrong(c, x, 999999, 3);
        c.due("sum", 4, x.meter(0, 1));
    }

    private static void wrong(Checks c, WindowMeters x, int time, int key) {
        int now = x.now();
        int count = x.meter(0, 0);
        c.dueThrow("tuple(" + time + ", " + key + ")", ILLEGAL, () -> x.tuple(time, key, 1));
        c.due("now after a wrong tuple", now, x.now());
        c.due("tuples after a wrong tuple", count, x.meter(0, 0));
    }

    private static void timeBehindTick(Checks c) {
        WindowMeters x = new WindowMeters();
        x.tuple(3, 0, 1);
        x.tick(10);
        c.dueThrow("below now, above the one before", ILLEGAL, () -> x.tuple(9, 0, 1));
        c.due("at now", 2, x.tuple(10, 0, 1));
    }

    private static void full(Checks c) {
        WindowMeters x = new WindowMeters();
        x.window(1, 1000000);
        for (int i = 1; i <= 300; i++) {
            c.due("tuple " + i, i, x.tuple(i, i % 8, i));
        }
        c.dueThrow("one too many", UnsupportedOperationException.class, () -> x.tuple(400, 0, 1));
        // The document names what is wrong with the arguments ahead of there being 300.
        c.dueThrow("one too many, bad time", ILLEGAL, () -> x.tuple(299, 0, 1));
        c.dueThrow("one too many, bad key", ILLEGAL, () -> x.tuple(400, 8, 1));
        c.due("now", 300, x.now());
        c.due("tuples", 300, x.meter(0, 0));
        c.due("sum", 45150, x.meter(0, 1));
        c.due("the last one", true, x.has(0, 299));
        c.dueThrow("behind the last one", IndexOutOfBoundsException.class, () -> x.has(0, 300));
    }
}
