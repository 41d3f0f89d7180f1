/** Promise 8, a method for each of its sentences; Terms3ValuesTest has what the most frequent value is. */
public final class Promise08FrequentTest {
    private static final int MIN = Checks.MIN;
    private static final int MAX = Checks.MAX;

    public static void main(String[] args) {
        Checks c = new Checks();
        theMostFrequent(c);
        ofThoseInsideAlone(c);
        of300(c);
        noSuchWindow(c);
        ifItHasNone(c);
        c.end();
    }

    private static void frequent(Checks c, int want, int... values) {
        WindowMeters x = Checks.withValues(values);
        c.due("most frequent of " + java.util.Arrays.toString(values), want, () -> x.frequent(0));
    }

    private static void theMostFrequent(Checks c) {
        frequent(c, 6, 6);
        frequent(c, 9, 1, 9, 2, 9, 1, 9);
        frequent(c, 2, 9, 2, 9, 2, 5);
        frequent(c, -3, 4, 0, -3, 7);
        frequent(c, -1, -1, 0, -1);
        frequent(c, 0, -1, 0, 0);
        frequent(c, MIN, MAX, MIN, MAX, MIN);
        frequent(c, MAX, MAX, MIN, MAX);
    }

    private static void ofThoseInsideAlone(Checks c) {
        WindowMeters x = new WindowMeters();
        x.window(1, 3);
        for (int value : new int[] {4, 4, 4, 8, 9, 8}) {
            x.tuple(2, 1, value);
        }
        c.due("of the last three", 8, () -> x.frequent(0));
        WindowMeters y = new WindowMeters();
        y.window(2, 1);
        y.tuple(1, 0, 5);
        y.tuple(1, 1, 5);
        y.tuple(1, 0, 5);
        y.tuple(1, 0, 4);
        c.due("like ones ahead and among the last of each key", 4, () -> y.frequent(0));
    }

    private static void of300(Checks c) {
        WindowMeters x = new WindowMeters();
        x.window(1, 300);
        x.window(1, 299);
        for (int i = 0; i < 300; i++) {
            x.tuple(0, 0, i % 2 == 0 ? -7 : 7);
        }
        c.due("150 of each", -7, () -> x.frequent(0));
        c.due("how often of 300", 150, () -> x.meter(0, 3));
        c.due("149 and 150", 7, () -> x.frequent(1));
        c.due("how often of 299", 150, () -> x.meter(1, 3));
    }

    private static void noSuchWindow(Checks c) {
        for (int windows = 0; windows <= 6; windows++) {
            WindowMeters x = Checks.of(windows, 1);
            if (windows > 0) {
                int last = windows - 1;
                c.due("the last of " + windows + " windows", 1, () -> x.frequent(last));
            }
            for (int w : new int[] {-1, windows, 6, MIN, MAX}) {
                c.dueThrow("window " + w + " of " + windows, Checks.NO_SUCH, () -> x.frequent(w));
            }
        }
    }

    private static void ifItHasNone(Checks c) {
        WindowMeters none = Checks.withValues();
        c.dueThrow("no tuples", Checks.NO_VALUE, () -> none.frequent(0));
        WindowMeters x = new WindowMeters();
        x.window(0, 3);
        x.window(1, 0);
        x.tuple(2, 1, 5);
        c.dueThrow("the last none", Checks.NO_VALUE, () -> x.frequent(1));
        x.tick(5);
        c.due("the last time that it has one", 5, () -> x.frequent(0));
        x.tick(6);
        c.dueThrow("the first time that it has none", Checks.NO_VALUE, () -> x.frequent(0));
    }
}
