import java.util.NoSuchElementException;

public final class Promise07KthTest {
    private static final Class<IndexOutOfBoundsException> NO_WINDOW = IndexOutOfBoundsException.class;
    private static final Class<NoSuchElementException> NO_VALUE = NoSuchElementException.class;

    public static void main(String[] args) {
        Checks c = new Checks();
        row(c, Checks.withValues());
        row(c, Checks.withValues(8), 8);
        row(c, Checks.withValues(5, -1, 5, 3), -1, 3, 5, 5);
        int max = Integer.MAX_VALUE;
        int min = Integer.MIN_VALUE;
        row(c, Checks.withValues(0, max, min, -1), min, -1, 0, max);
        onlyInside(c);
        fullRow(c);
        WindowMeters x = Checks.withValues(1);
        for (int w : new int[] {-1, 1, 6, min, max}) {
            c.dueThrow("window " + w, NO_WINDOW, () -> x.kth(w, 0));
            c.dueThrow("window " + w + ", bad k", NO_WINDOW, () -> x.kth(w, -1));
        }
        c.end();
    }

    private static void row(Checks c, WindowMeters x, int... want) {
        for (int k = 0; k < want.length; k++) {
            c.due("kth " + k + " of " + want.length, want[k], x.kth(0, k));
        }
        for (int k : new int[] {-1, want.length, 300, Integer.MIN_VALUE, Integer.MAX_VALUE}) {
            c.dueThrow("kth " + k + " of " + want.length, NO_VALUE, () -> x.kth(0, k));
        }
    }

    private static void onlyInside(Checks c) {
        WindowMeters x = new WindowMeters();
        x.window(5, 1);
        for (int i = 0; i < 5; i++) {
            x.tuple(i, 0, 10 - i);
        }
        row(c, x, 8, 9, 10);
    }

    private static void fullRow(Checks c) {
        WindowMeters x = new WindowMeters();
        x.window(1, 300);
        for (int i = 0; i < 300; i++) {
            x.tuple(i, i % 8, (i * 7) % 300);
        }
        for (int k = 0; k < 300; k++) {
            c.due("kth " + k + " of 300", k, x.kth(0, k));
        }
        c.dueThrow("kth 300 of 300", NO_VALUE, () -> x.kth(0, 300));
    }
}
