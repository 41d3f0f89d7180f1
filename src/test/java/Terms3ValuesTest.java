/** Terms 3, a method for each of its sentences: the k-th by size, and the most frequent value. */
public final class Terms3ValuesTest {
    public static void main(String[] args) {
        Checks c = new Checks();
        kFrom0(c);
        asOftenAsTheyAreThere(c);
        bySizeNotByBits(c);
        mostOften(c);
        ofSeveralTheLeast(c);
        c.end();
    }

    private static void kFrom0(Checks c) {
        WindowMeters x = Checks.withValues(30, 10, 20);
        c.due("0th", 10, () -> x.kth(0, 0));
        c.due("1st", 20, () -> x.kth(0, 1));
        c.due("2nd", 30, () -> x.kth(0, 2));
        c.dueThrow("-1st", Checks.NO_VALUE, () -> x.kth(0, -1));
        c.dueThrow("3rd", Checks.NO_VALUE, () -> x.kth(0, 3));
    }

    private static void asOftenAsTheyAreThere(Checks c) {
        WindowMeters x = Checks.withValues(5, 1, 5, 1, 1);
        int[] want = {1, 1, 1, 5, 5};
        for (int k = 0; k < want.length; k++) {
            int at = k;
            c.due("kth " + k, want[k], () -> x.kth(0, at));
        }
        c.dueThrow("kth 5", Checks.NO_VALUE, () -> x.kth(0, 5));
    }

    private static void bySizeNotByBits(Checks c) {
        WindowMeters x = Checks.withValues(Checks.MAX, 0, Checks.MIN, -1, 1);
        int[] want = {Checks.MIN, -1, 0, 1, Checks.MAX};
        for (int k = 0; k < want.length; k++) {
            int at = k;
            c.due("kth " + k, want[k], () -> x.kth(0, at));
        }
    }

    private static void mostOften(Checks c) {
        WindowMeters greatest = Checks.withValues(1, 9, 1, 9, 9);
        c.due("the greatest is there most often", 9, () -> greatest.frequent(0));
        c.due("how often the greatest", 3, () -> greatest.meter(0, 3));
        WindowMeters middle = Checks.withValues(9, 5, 1, 5, 9, 1, 5);
        c.due("the middle one is there most often", 5, () -> middle.frequent(0));
        c.due("how often the middle one", 3, () -> middle.meter(0, 3));
    }

    private static void ofSeveralTheLeast(Checks c) {
        WindowMeters x = Checks.withValues(Checks.MAX, 3, Checks.MAX, 3, 1);
        c.due("of two", 3, () -> x.frequent(0));
        c.due("how often each of two", 2, () -> x.meter(0, 3));
        WindowMeters ends = Checks.withValues(Checks.MAX, Checks.MIN);
        c.due("of the greatest and the least int", Checks.MIN, () -> ends.frequent(0));
        WindowMeters around0 = Checks.withValues(1, 0, -1);
        c.due("of 1, 0 and -1", -1, () -> around0.frequent(0));
        WindowMeters all = new WindowMeters();
        all.window(1, 1000000);
        for (int i = 0; i < 300; i++) {
            all.tuple(0, 0, 299 - i);
        }
        c.due("of 300", 0, () -> all.frequent(0));
        c.due("how often each of 300", 1, () -> all.meter(0, 3));
    }
}
