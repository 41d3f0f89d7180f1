public final class Promise02ClearTest {
    public static void main(String[] args) {
        Checks c = new Checks();
        WindowMeters x = new WindowMeters();
        x.clear();
        c.due("now after clear of a new object", 0, x.now());
        fill(x);
        x.clear();
        c.due("now", 0, x.now());
        c.dueThrow("meter", IndexOutOfBoundsException.class, () -> x.meter(0, 0));
        c.due("first window", 0, x.window(2, 1000000));
        c.due("values", 0, x.meter(0, 0));
        c.dueThrow("has", IndexOutOfBoundsException.class, () -> x.has(0, 0));
        c.dueThrow("kth", java.util.NoSuchElementException.class, () -> x.kth(0, 0));
        c.due("first tuple", 1, x.tuple(0, 3, -4));
        c.due("sum has nothing of before", -4, x.meter(0, 1));
        c.due("least", -4, x.kth(0, 0));
        c.due("now of a first tuple at 0", 0, x.now());
        x.clear();
        fill(x);
        c.due("all again", 300, x.meter(5, 0));
        c.due("least again", -149, x.kth(5, 0));
        c.due("greatest again", 150, x.kth(5, 299));
        c.end();
    }

    private static void fill(WindowMeters x) {
        for (int w = 0; w < 6; w++) {
            x.window(1, 1000000);
        }
        for (int i = 0; i < 300; i++) {
            x.tuple(i, i % 8, 150 - i);
        }
        x.tick(1000000);
    }
}
