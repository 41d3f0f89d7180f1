public final class Promise03WindowTest {
    private static final Class<IllegalArgumentException> ILLEGAL = IllegalArgumentException.class;
    private static final Class<UnsupportedOperationException> FULL = UnsupportedOperationException.class;

    public static void main(String[] args) {
        Checks c = new Checks();
        WindowMeters x = new WindowMeters();
        wrongInputs(c, x);
        c.dueThrow("no window came of wrong calls", IndexOutOfBoundsException.class, () -> x.meter(0, 0));
        for (int w = 0; w < 6; w++) {
            c.due("window " + w, w, x.window(w, w % 2 == 0 ? 0 : 1000000));
        }
        c.dueThrow("seventh window", FULL, () -> x.window(0, 1));
        c.dueThrow("seventh window again", FULL, () -> x.window(5, 0));
        // The document names what is wrong with the arguments ahead of there being six.
        wrongInputs(c, x);
        x.tuple(4, 0, 9);
        x.tick(5);
        c.due("the sixth is as it was made", 0, x.meter(5, 0));
        c.due("the first is as it was made", 0, x.meter(0, 0));
        c.due("the second is as it was made", 1, x.meter(1, 0));
        c.dueThrow("window 6", IndexOutOfBoundsException.class, () -> x.meter(6, 0));
        twoOfOneKind(c);
        c.end();
    }

    private static void wrongInputs(Checks c, WindowMeters x) {
        for (int kind : new int[] {-1, 6, 7, Integer.MIN_VALUE, Integer.MAX_VALUE}) {
            c.dueThrow("kind " + kind, ILLEGAL, () -> x.window(kind, 1));
        }
        for (int n : new int[] {-1, 1000001, Integer.MIN_VALUE, Integer.MAX_VALUE}) {
            for (int kind = 0; kind < 6; kind++) {
                int good = kind;
                c.dueThrow("kind " + kind + ", n " + n, ILLEGAL, () -> x.window(good, n));
            }
        }
    }

    private static void twoOfOneKind(Checks c) {
        WindowMeters x = Checks.withValues(1, 2, 3);
        c.due("second window", 1, x.window(1, 2));
        c.due("third window", 2, x.window(1, 1));
        c.due("all rows", 3, x.meter(0, 0));
        c.due("two rows", 2, x.meter(1, 0));
        c.due("one row", 1, x.meter(2, 0));
    }
}
