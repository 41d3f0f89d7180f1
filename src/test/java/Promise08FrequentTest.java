import java.util.NoSuchElementException;

public final class Promise08FrequentTest {
    public static void main(String[] args) {
        Checks c = new Checks();
        c.due("one", 6, Checks.withValues(6).frequent(0));
        c.due("most often", 9, Checks.withValues(1, 9, 2, 9, 1, 9).frequent(0));
        c.due("the least of several", 2, Checks.withValues(9, 2, 9, 2, 5).frequent(0));
        c.due("the least of all", -3, Checks.withValues(4, 0, -3, 7).frequent(0));
        c.due("NONE as a value", -1, Checks.withValues(-1, 0, -1).frequent(0));
        int min = Integer.MIN_VALUE;
        int max = Integer.MAX_VALUE;
        c.due("the least int", min, Checks.withValues(max, min, max, min).frequent(0));
        c.due("the greatest int", max, Checks.withValues(max, min, max).frequent(0));
        onlyInside(c);
        WindowMeters none = Checks.withValues();
        c.dueThrow("no value", NoSuchElementException.class, () -> none.frequent(0));
        WindowMeters x = Checks.withValues(1);
        for (int w : new int[] {-1, 1, 6, min, max}) {
            c.dueThrow("window " + w, IndexOutOfBoundsException.class, () -> x.frequent(w));
        }
        c.end();
    }

    private static void onlyInside(Checks c) {
        WindowMeters x = new WindowMeters();
        x.window(1, 3);
        x.window(1, 0);
        for (int value : new int[] {4, 4, 4, 8, 9, 8}) {
            x.tuple(2, 1, value);
        }
        c.due("of the last three", 8, x.frequent(0));
        c.dueThrow("of the last none", NoSuchElementException.class, () -> x.frequent(1));
    }
}
