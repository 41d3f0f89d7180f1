public final class Promise10HasTest {
    private static final Class<IndexOutOfBoundsException> NO_SUCH = IndexOutOfBoundsException.class;

    public static void main(String[] args) {
        Checks c = new Checks();
        WindowMeters x = new WindowMeters();
        x.window(1, 2);
        c.dueThrow("tuple 0 of none", NO_SUCH, () -> x.has(0, 0));
        x.tuple(1, 0, 5);
        x.tuple(2, 0, -5);
        x.tuple(3, 0, 0);
        c.due("tuple 0", false, x.has(0, 0));
        c.due("tuple 1", true, x.has(0, 1));
        c.due("tuple 2", true, x.has(0, 2));
        for (int i : new int[] {-1, 3, 299, 300, Integer.MIN_VALUE, Integer.MAX_VALUE}) {
            c.dueThrow("tuple " + i, NO_SUCH, () -> x.has(0, i));
        }
        for (int w : new int[] {-1, 1, 6, Integer.MIN_VALUE, Integer.MAX_VALUE}) {
            c.dueThrow("window " + w, NO_SUCH, () -> x.has(w, 0));
        }
        c.end();
    }
}
