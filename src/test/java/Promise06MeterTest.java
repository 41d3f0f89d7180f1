public final class Promise06MeterTest {
    private static final Class<IndexOutOfBoundsException> NO_WINDOW = IndexOutOfBoundsException.class;
    private static final Class<IllegalArgumentException> NO_METER = IllegalArgumentException.class;

    public static void main(String[] args) {
        Checks c = new Checks();
        meters(c, "none", Checks.withValues(), 0, 0, 0, 0);
        meters(c, "one", Checks.withValues(-5), 1, -5, 1, 1);
        meters(c, "like ones", Checks.withValues(4, 4, 4), 3, 12, 1, 3);
        meters(c, "unlike ones", Checks.withValues(3, 1, 2), 3, 6, 3, 1);
        meters(c, "like ones apart", Checks.withValues(9, -1, 9, -1, 9, 0), 6, 25, 3, 3);
        meters(c, "NONE as a value", Checks.withValues(-1, -1, 0), 3, -2, 2, 2);
        int max = Integer.MAX_VALUE;
        int min = Integer.MIN_VALUE;
        meters(c, "sum above", Checks.withValues(max, 1), 2, min, 2, 1);
        meters(c, "sum below", Checks.withValues(min, -1, min), 3, -1, 2, 2);
        onlyInside(c);
        wrongInputs(c);
        c.end();
    }

    private static void meters(Checks c, String name, WindowMeters x, int... want) {
        for (int what = 0; what < 4; what++) {
            c.due(name + ", meter " + what, want[what], x.meter(0, what));
        }
    }

    private static void onlyInside(Checks c) {
        WindowMeters x = new WindowMeters();
        x.window(1, 3);
        for (int value : new int[] {7, 7, 7, 5, 6, 5}) {
            x.tuple(1, 0, value);
        }
        meters(c, "the last three", x, 3, 16, 2, 2);
    }

    private static void wrongInputs(Checks c) {
        WindowMeters x = Checks.withValues(1, 2);
        for (int w : new int[] {-1, 1, 5, 6, Integer.MIN_VALUE, Integer.MAX_VALUE}) {
            c.dueThrow("window " + w, NO_WINDOW, () -> x.meter(w, 0));
            c.dueThrow("window " + w + ", bad meter", NO_WINDOW, () -> x.meter(w, 4));
        }
        for (int what : new int[] {-1, 4, Integer.MIN_VALUE, Integer.MAX_VALUE}) {
            c.dueThrow("meter " + what, NO_METER, () -> x.meter(0, what));
        }
        meters(c, "after wrong calls", x, 2, 3, 2, 1);
    }
}
