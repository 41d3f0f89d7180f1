public final class Promise09BelowTest {
    public static void main(String[] args) {
        Checks c = new Checks();
        int min = Integer.MIN_VALUE;
        int max = Integer.MAX_VALUE;
        c.due("of none", 0, Checks.withValues().below(0, max));
        WindowMeters x = Checks.withValues(3, min, 3, max, -1, 8);
        c.due("below the least int", 0, x.below(0, min));
        c.due("below the next to it", 1, x.below(0, min + 1));
        c.due("below -1", 1, x.below(0, -1));
        c.due("below 0", 2, x.below(0, 0));
        c.due("below 3", 2, x.below(0, 3));
        c.due("below 4", 4, x.below(0, 4));
        c.due("below the greatest int", 5, x.below(0, max));
        x.window(1, 2);
        c.due("of the last two", 1, x.below(1, 8));
        for (int w : new int[] {-1, 2, 6, min, max}) {
            c.dueThrow("window " + w, IndexOutOfBoundsException.class, () -> x.below(w, 0));
        }
        c.end();
    }
}
