/** Promise 7, a method for each of its sentences; Terms3ValuesTest has what the k-th by size is. */
public final class Promise07KthTest {
    private static final int MIN = Checks.MIN;
    private static final int MAX = Checks.MAX;

    public static void main(String[] args) {
        Checks c = new Checks();
        ofNoValues(c);
        ofSomeValues(c);
        ofThoseInsideAlone(c);
        of300(c);
        noSuchWindow(c);
        c.end();
    }

    /** All values by size, and behind both ends of them none. */
    private static void row(Checks c, WindowMeters x, int... want) {
        for (int k = 0; k < want.length; k++) {
            int at = k;
            c.due("kth " + k + " of " + want.length, want[k], () -> x.kth(0, at));
        }
        for (int k : new int[] {-1, want.length, want.length + 1, 300, MIN, MAX}) {
            c.dueThrow("kth " + k + " of " + want.length, Checks.NO_VALUE, () -> x.kth(0, k));
        }
    }

    private static void ofNoValues(Checks c) {
        row(c, Checks.withValues());
        WindowMeters x = new WindowMeters();
        x.window(1, 0);
        x.tuple(0, 0, 7);
        row(c, x);
    }

    private static void ofSomeValues(Checks c) {
        row(c, Checks.withValues(8), 8);
        row(c, Checks.withValues(5, -1, 5, 3), -1, 3, 5, 5);
        row(c, Checks.withValues(0, MAX, MIN, -1), MIN, -1, 0, MAX);
        row(c, Checks.withValues(1, 2, 3), 1, 2, 3);
        row(c, Checks.withValues(3, 2, 1), 1, 2, 3);
    }

    private static void ofThoseInsideAlone(Checks c) {
        WindowMeters x = new WindowMeters();
        x.window(5, 1);
        for (int i = 0; i < 5; i++) {
            x.tuple(i, 0, 10 - i);
        }
        row(c, x, 8, 9, 10);
        WindowMeters y = new WindowMeters();
        y.window(2, 1);
        y.tuple(1, 0, 5);
        y.tuple(1, 1, 5);
        y.tuple(1, 0, 5);
        y.tuple(1, 0, 4);
        row(c, y, 4, 5);
    }

    private static void of300(Checks c) {
        WindowMeters x = new WindowMeters();
        x.window(1, 300);
        for (int i = 0; i < 300; i++) {
            x.tuple(i, i % 8, i * 7 % 300);
        }
        for (int k = 0; k < 300; k += 13) {
            int at = k;
            c.due("kth " + k + " of 300", k, () -> x.kth(0, at));
        }
        c.due("kth 299 of 300", 299, () -> x.kth(0, 299));
        c.dueThrow("kth 300 of 300", Checks.NO_VALUE, () -> x.kth(0, 300));
        c.dueThrow("kth -1 of 300", Checks.NO_VALUE, () -> x.kth(0, -1));
    }

    private static void noSuchWindow(Checks c) {
        for (int windows = 0; windows <= 6; windows++) {
            WindowMeters x = Checks.of(windows, 1);
            if (windows > 0) {
                int last = windows - 1;
                c.due("the last of " + windows + " windows", 1, () -> x.kth(last, 0));
            }
            for (int w : new int[] {-1, windows, 6, MIN, MAX}) {
                c.dueThrow("window " + w + " of " + windows, Checks.NO_SUCH, () -> x.kth(w, 0));
                // The document names the window ahead of k.
                c.dueThrow("window " + w + " of " + windows + ", k -1", Checks.NO_SUCH, () -> x.kth(w, -1));
                c.dueThrow("window " + w + " of " + windows + ", k 1", Checks.NO_SUCH, () -> x.kth(w, 1));
            }
        }
    }
}
