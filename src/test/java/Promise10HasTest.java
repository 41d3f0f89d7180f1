/** Promise 10, a method for each of its sentences; Terms2WindowsTest has what is in a window. */
public final class Promise10HasTest {
    public static void main(String[] args) {
        Checks c = new Checks();
        whetherItIsInside(c);
        noSuchTuple(c);
        noSuchTupleOf300(c);
        noSuchWindow(c);
        c.end();
    }

    private static void whetherItIsInside(Checks c) {
        WindowMeters x = Checks.withValues(5, -5, 0);
        x.window(1, 2);
        x.window(1, 0);
        c.due("tuple 0 of all", true, () -> x.has(0, 0));
        c.due("tuple 0 of the last two", false, () -> x.has(1, 0));
        c.due("tuple 1 of the last two", true, () -> x.has(1, 1));
        c.due("tuple 2 of the last two", true, () -> x.has(1, 2));
        c.due("tuple 2 of the last none", false, () -> x.has(2, 2));
    }

    private static void noSuchTuple(Checks c) {
        for (int tuples = 0; tuples <= 3; tuples++) {
            WindowMeters x = Checks.of(1, tuples);
            if (tuples > 0) {
                int last = tuples - 1;
                c.due("tuple 0 of " + tuples, true, () -> x.has(0, 0));
                c.due("the last of " + tuples, true, () -> x.has(0, last));
            }
            for (int i : new int[] {-1, tuples, 299, 300, Checks.MIN, Checks.MAX}) {
                c.dueThrow("tuple " + i + " of " + tuples, Checks.NO_SUCH, () -> x.has(0, i));
            }
        }
    }

    private static void noSuchTupleOf300(Checks c) {
        WindowMeters x = Checks.of(1, 300);
        c.due("tuple 0 of 300", true, () -> x.has(0, 0));
        c.due("tuple 299 of 300", true, () -> x.has(0, 299));
        c.dueThrow("tuple 300 of 300", Checks.NO_SUCH, () -> x.has(0, 300));
        c.dueThrow("tuple -1 of 300", Checks.NO_SUCH, () -> x.has(0, -1));
    }

    private static void noSuchWindow(Checks c) {
        for (int windows = 0; windows <= 6; windows++) {
            WindowMeters x = Checks.of(windows, 1);
            if (windows > 0) {
                int last = windows - 1;
                c.due("the last of " + windows + " windows", true, () -> x.has(last, 0));
            }
            for (int w : new int[] {-1, windows, 6, Checks.MIN, Checks.MAX}) {
                c.dueThrow("window " + w + " of " + windows, Checks.NO_SUCH, () -> x.has(w, 0));
                c.dueThrow("window " + w + " of " + windows + ", no such tuple", Checks.NO_SUCH, () -> x.has(w, 1));
            }
        }
    }
}
