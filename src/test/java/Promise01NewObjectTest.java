/** Promise 1, a method for each of its words: no tuples, no windows; now is 0. */
public final class Promise01NewObjectTest {
    public static void main(String[] args) {
        Checks c = new Checks();
        noTuples(c);
        noWindows(c);
        nowIs0(c);
        objectsShareNothing(c);
        c.due("NONE", -1, WindowMeters.NONE);
        c.end();
    }

    private static void noTuples(Checks c) {
        WindowMeters x = new WindowMeters();
        for (int w = 0; w < 6; w++) {
            int number = w;
            c.due("window", w, () -> x.window(number, 1000000));
            c.due("values in it", 0, () -> x.meter(number, 0));
            c.dueThrow("tuple 0 in it", Checks.NO_SUCH, () -> x.has(number, 0));
            c.dueThrow("least in it", Checks.NO_VALUE, () -> x.kth(number, 0));
            c.dueThrow("most frequent in it", Checks.NO_VALUE, () -> x.frequent(number));
        }
        c.due("first tuple", 1, () -> x.tuple(0, 0, 7));
    }

    private static void noWindows(Checks c) {
        WindowMeters x = new WindowMeters();
        for (int w = -1; w <= 6; w++) {
            int number = w;
            c.dueThrow("meter of window " + w, Checks.NO_SUCH, () -> x.meter(number, 0));
            c.dueThrow("kth of window " + w, Checks.NO_SUCH, () -> x.kth(number, 0));
            c.dueThrow("frequent of window " + w, Checks.NO_SUCH, () -> x.frequent(number));
            c.dueThrow("below of window " + w, Checks.NO_SUCH, () -> x.below(number, 0));
            c.dueThrow("has of window " + w, Checks.NO_SUCH, () -> x.has(number, 0));
        }
        c.due("first window", 0, () -> x.window(0, 0));
    }

    private static void nowIs0(Checks c) {
        WindowMeters x = new WindowMeters();
        c.due("now", 0, x::now);
        c.dueActThrow("tick below now", Checks.ILLEGAL, () -> x.tick(-1));
        c.dueNoThrow("tick at now", () -> x.tick(0));
        c.due("tuple at now", 1, () -> x.tuple(0, 0, 7));
    }

    private static void objectsShareNothing(Checks c) {
        WindowMeters x = new WindowMeters();
        x.window(0, 1000000);
        x.tuple(500, 0, 7);
        WindowMeters y = new WindowMeters();
        c.due("now of a second object", 0, y::now);
        c.due("window of a second object", 0, () -> y.window(1, 9));
        c.due("values of a second object", 0, () -> y.meter(0, 0));
        y.tuple(3, 0, 8);
        c.due("values of the first object", 1, () -> x.meter(0, 0));
        c.due("sum of the first object", 7, () -> x.meter(0, 1));
        c.due("now of the first object", 500, x::now);
    }
}
