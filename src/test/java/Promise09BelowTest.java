/** Promise 9, a method for each of its sentences. */
public final class Promise09BelowTest {
    private static final int MIN = Checks.MIN;
    private static final int MAX = Checks.MAX;

    public static void main(String[] args) {
        Checks c = new Checks();
        ofNoValues(c);
        belowAndNotAt(c);
        theEndsOfInt(c);
        ofThoseInsideAlone(c);
        of300(c);
        noSuchWindow(c);
        c.end();
    }

    private static void ofNoValues(Checks c) {
        WindowMeters none = Checks.withValues();
        WindowMeters x = new WindowMeters();
        x.window(1, 0);
        x.tuple(0, 0, 7);
        for (int v : new int[] {MIN, -1, 0, 8, MAX}) {
            c.due("no tuples, below " + v, 0, () -> none.below(0, v));
            c.due("none inside, below " + v, 0, () -> x.below(0, v));
        }
    }

    private static void belowAndNotAt(Checks c) {
        WindowMeters x = Checks.withValues(3, -1, 3, 8);
        int[][] wants = {{-2, 0}, {-1, 0}, {0, 1}, {3, 1}, {4, 3}, {8, 3}, {9, 4}};
        for (int[] want : wants) {
            c.due("below " + want[0], want[1], () -> x.below(0, want[0]));
        }
    }

    private static void theEndsOfInt(Checks c) {
        WindowMeters x = Checks.withValues(0, MIN, MAX, MAX - 1, MIN + 1);
        c.due("below the least int", 0, () -> x.below(0, MIN));
        c.due("below the one above it", 1, () -> x.below(0, MIN + 1));
        c.due("below the next", 2, () -> x.below(0, MIN + 2));
        c.due("below the one below the greatest int", 3, () -> x.below(0, MAX - 1));
        c.due("below the greatest int", 4, () -> x.below(0, MAX));
    }

    private static void ofThoseInsideAlone(Checks c) {
        WindowMeters x = Checks.withValues(1, 2, 3, 4);
        x.window(1, 2);
        c.due("of the last two, below 4", 1, () -> x.below(1, 4));
        c.due("of the last two, below 3", 0, () -> x.below(1, 3));
        c.due("of all, below 4", 3, () -> x.below(0, 4));
    }

    private static void of300(Checks c) {
        WindowMeters x = new WindowMeters();
        x.window(1, 300);
        for (int i = 0; i < 300; i++) {
            x.tuple(i, 0, 299 - i);
        }
        for (int v : new int[] {0, 1, 150, 299, 300}) {
            c.due("of 300, below " + v, v, () -> x.below(0, v));
        }
    }

    private static void noSuchWindow(Checks c) {
        for (int windows = 0; windows <= 6; windows++) {
            WindowMeters x = Checks.of(windows, 1);
            if (windows > 0) {
                int last = windows - 1;
                c.due("the last of " + windows + " windows", 1, () -> x.below(last, 2));
            }
            for (int w : new int[] {-1, windows, 6, MIN, MAX}) {
                c.dueThrow("window " + w + " of " + windows, Checks.NO_SUCH, () -> x.below(w, 0));
            }
        }
    }
}
