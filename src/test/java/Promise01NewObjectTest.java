public final class Promise01NewObjectTest {
    public static void main(String[] args) {
        Checks c = new Checks();
        WindowMeters x = new WindowMeters();
        c.due("now", 0, x.now());
        for (int w = -1; w <= 6; w++) {
            int number = w;
            c.dueThrow("meter of a new object", IndexOutOfBoundsException.class, () -> x.meter(number, 0));
        }
        c.due("first window", 0, x.window(0, 1000000));
        c.due("values of it", 0, x.meter(0, 0));
        c.dueThrow("has of a new object", IndexOutOfBoundsException.class, () -> x.has(0, 0));
        c.due("first tuple", 1, x.tuple(0, 0, 7));
        WindowMeters y = new WindowMeters();
        c.due("window of a second object", 0, y.window(1, 9));
        c.due("values of a second object", 0, y.meter(0, 0));
        c.due("NONE", -1, WindowMeters.NONE);
        c.end();
    }
}
