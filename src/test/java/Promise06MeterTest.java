/** Promise 6, a method for each meter, for the sum's wrapping, and for each call that is refused. */
public final class Promise06MeterTest {
    private static final int MIN = Checks.MIN;
    private static final int MAX = Checks.MAX;

    public static void main(String[] args) {
        Checks c = new Checks();
        ofNoValues(c);
        ofSomeValues(c);
        ofThoseInsideAlone(c);
        likeOnesOutsideDoNotCount(c);
        sumUpToItsEnds(c);
        sumWraps(c);
        sumOf300Wraps(c);
        unlikeOf300(c);
        noSuchWindow(c);
        anotherWhat(c);
        c.end();
    }

    private static void meters(Checks c, String name, WindowMeters x, int... want) {
        for (int what = 0; what < 4; what++) {
            int good = what;
            c.due(name + ", meter " + what, want[what], () -> x.meter(0, good));
        }
    }

    private static void ofNoValues(Checks c) {
        meters(c, "no tuples", Checks.withValues(), 0, 0, 0, 0);
        WindowMeters x = new WindowMeters();
        x.window(1, 0);
        x.tuple(0, 0, 7);
        meters(c, "none inside", x, 0, 0, 0, 0);
    }

    private static void ofSomeValues(Checks c) {
        meters(c, "one", Checks.withValues(-5), 1, -5, 1, 1);
        meters(c, "one 0", Checks.withValues(0), 1, 0, 1, 1);
        meters(c, "like ones", Checks.withValues(4, 4, 4), 3, 12, 1, 3);
        meters(c, "unlike ones", Checks.withValues(3, 1, 2), 3, 6, 3, 1);
        meters(c, "like ones apart", Checks.withValues(9, -1, 9, -1, 9, 0), 6, 25, 3, 3);
        meters(c, "NONE as a value", Checks.withValues(-1, -1, 0), 3, -2, 2, 2);
        meters(c, "the ends of int", Checks.withValues(MIN, MAX, MIN, MAX, MAX), 5, MAX - 2, 2, 3);
    }

    private static void ofThoseInsideAlone(Checks c) {
        WindowMeters x = new WindowMeters();
        x.window(1, 3);
        for (int value : new int[] {7, 7, 7, 5, 6, 5}) {
            x.tuple(1, 0, value);
        }
        meters(c, "the last three", x, 3, 16, 2, 2);
    }

    private static void likeOnesOutsideDoNotCount(Checks c) {
        WindowMeters x = new WindowMeters();
        x.window(1, 3);
        for (int value : new int[] {5, 6, 5, 5, 6, 5}) {
            x.tuple(1, 0, value);
        }
        meters(c, "like ones ahead of the last three", x, 3, 16, 2, 2);
        WindowMeters y = new WindowMeters();
        y.window(2, 1);
        y.tuple(1, 0, 5);
        y.tuple(1, 1, 5);
        y.tuple(1, 0, 5);
        y.tuple(1, 0, 4);
        meters(c, "like ones ahead and among the last of each key", y, 2, 9, 2, 1);
    }

    private static void sum(Checks c, int want, int... values) {
        WindowMeters x = Checks.withValues(values);
        c.due("sum of " + java.util.Arrays.toString(values), want, () -> x.meter(0, 1));
    }

    private static void sumUpToItsEnds(Checks c) {
        sum(c, MAX, MAX - 1, 1);
        sum(c, MAX, MAX);
        sum(c, MIN, MIN + 1, -1);
        sum(c, MIN, MIN);
        sum(c, -1, MIN, MAX);
    }

    private static void sumWraps(Checks c) {
        sum(c, MIN, MAX, 1);
        sum(c, MAX, MIN, -1);
        sum(c, 0, MIN, MIN);
        sum(c, -2, MAX, MAX);
        sum(c, MAX, MAX, 1, -1);
        sum(c, MIN, MIN, MIN, MIN);
        sum(c, -1, MIN, -1, MIN);
    }

    private static void sumOf300Wraps(Checks c) {
        WindowMeters x = new WindowMeters();
        x.window(1, 300);
        x.window(1, 299);
        for (int i = 0; i < 300; i++) {
            x.tuple(0, 0, MAX);
        }
        c.due("sum of 300 of the greatest int", -300, () -> x.meter(0, 1));
        c.due("sum of 299 of the greatest int", MAX - 298, () -> x.meter(1, 1));
    }

    private static void unlikeOf300(Checks c) {
        WindowMeters x = new WindowMeters();
        x.window(1, 1000000);
        for (int i = 0; i < 300; i++) {
            x.tuple(i, i % 8, i * 7919 % 300);
        }
        meters(c, "300 unlike ones", x, 300, 44850, 300, 1);
        meters(c, "300 like ones", Checks.of(1, 300), 300, 300, 1, 300);
    }

    private static void noSuchWindow(Checks c) {
        for (int windows = 0; windows <= 6; windows++) {
            WindowMeters x = Checks.of(windows, 2);
            if (windows > 0) {
                int last = windows - 1;
                c.due("the last of " + windows + " windows", 2, () -> x.meter(last, 0));
            }
            for (int w : new int[] {-1, windows, 6, MIN, MAX}) {
                c.dueThrow("window " + w + " of " + windows, Checks.NO_SUCH, () -> x.meter(w, 3));
                // The document names the window ahead of the meter.
                c.dueThrow("window " + w + " of " + windows + ", bad meter", Checks.NO_SUCH, () -> x.meter(w, 4));
            }
        }
    }

    private static void anotherWhat(Checks c) {
        WindowMeters x = Checks.withValues(1, 2);
        for (int what : new int[] {-1, 4, MIN, MAX}) {
            c.dueThrow("meter " + what, Checks.ILLEGAL, () -> x.meter(0, what));
        }
        meters(c, "after wrong calls", x, 2, 3, 2, 1);
        WindowMeters none = Checks.withValues();
        c.dueThrow("meter -1 of none", Checks.ILLEGAL, () -> none.meter(0, -1));
        c.dueThrow("meter 4 of none", Checks.ILLEGAL, () -> none.meter(0, 4));
    }
}
