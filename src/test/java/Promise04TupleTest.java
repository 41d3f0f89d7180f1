/** Promise 4, a method for each of its sentences; Terms1TuplesTest has the bounds one by one. */
public final class Promise04TupleTest {
    public static void main(String[] args) {
        Checks c = new Checks();
        howManyThereAre(c);
        timeNotAsItMustBe(c);
        noSuchKey(c);
        if300(c);
        wrongArgumentsWhenThereAre300(c);
        c.end();
    }

    private static void howManyThereAre(Checks c) {
        WindowMeters x = new WindowMeters();
        x.window(1, 1000000);
        c.due("first", 1, () -> x.tuple(0, 0, Checks.MIN));
        c.due("second, at the same time", 2, () -> x.tuple(0, 7, Checks.MAX));
        c.due("third, later", 3, () -> x.tuple(5, 3, 0));
        c.due("now goes with it", 5, x::now);
        c.due("fourth, the same once more", 4, () -> x.tuple(5, 3, 0));
        c.due("values", 4, () -> x.meter(0, 0));
        c.due("sum", -1, () -> x.meter(0, 1));
    }

    private static void timeNotAsItMustBe(Checks c) {
        WindowMeters x = Checks.of(1, 0);
        wrong(c, x, -1, 0);
        wrong(c, x, 1000001, 0);
        x.tuple(5, 0, 1);
        wrong(c, x, 4, 0);
        x.tick(8);
        wrong(c, x, 7, 0);
        wrong(c, x, 5, 0);
        wrong(c, x, Checks.MIN, 0);
        wrong(c, x, Checks.MAX, 0);
        x.tuple(1000000, 0, 1);
        wrong(c, x, 999999, 0);
        wrong(c, x, 1000001, 0);
    }

    private static void noSuchKey(Checks c) {
        WindowMeters x = Checks.of(1, 1);
        // The time is later than now, so that a now which goes on would be seen.
        wrong(c, x, 5, -1);
        wrong(c, x, 5, 8);
        wrong(c, x, 5, Checks.MIN);
        wrong(c, x, 5, Checks.MAX);
        c.due("key 0 after them", 2, () -> x.tuple(0, 0, 1));
        c.due("key 7 after them", 3, () -> x.tuple(0, 7, 1));
    }

    private static void wrong(Checks c, WindowMeters x, int time, int key) {
        int now = x.now();
        int count = x.meter(0, 0);
        c.dueThrow("tuple(" + time + ", " + key + ")", Checks.ILLEGAL, () -> x.tuple(time, key, 1));
        c.due("now after a wrong tuple", now, x::now);
        c.due("tuples after a wrong tuple", count, () -> x.meter(0, 0));
    }

    private static void if300(Checks c) {
        WindowMeters x = new WindowMeters();
        x.window(1, 1000000);
        for (int i = 1; i < 300; i++) {
            x.tuple(i, i % 8, i);
        }
        c.due("tuple 300", 300, () -> x.tuple(300, 0, 300));
        c.dueThrow("tuple 301", Checks.FULL, () -> x.tuple(400, 0, 1));
        c.dueThrow("tuple 301 at now", Checks.FULL, () -> x.tuple(300, 7, 1));
        c.due("now", 300, x::now);
        c.due("tuples", 300, () -> x.meter(0, 0));
        c.due("sum", 45150, () -> x.meter(0, 1));
        c.due("the last one", true, () -> x.has(0, 299));
        c.dueThrow("behind the last one", Checks.NO_SUCH, () -> x.has(0, 300));
    }

    // The document names what is wrong with the arguments ahead of there being 300.
    private static void wrongArgumentsWhenThereAre300(Checks c) {
        WindowMeters x = Checks.of(0, 300);
        c.dueThrow("time -1 of a 301st", Checks.ILLEGAL, () -> x.tuple(-1, 0, 1));
        c.dueThrow("time 1000001 of a 301st", Checks.ILLEGAL, () -> x.tuple(1000001, 0, 1));
        c.dueThrow("key -1 of a 301st", Checks.ILLEGAL, () -> x.tuple(0, -1, 1));
        c.dueThrow("key 8 of a 301st", Checks.ILLEGAL, () -> x.tuple(0, 8, 1));
    }
}
