/** Every question to every kind of window when there are 300 tuples and six windows. */
public final class FullTest {
    public static void main(String[] args) {
        Checks c = new Checks();
        // The first tuple that is in, and the one behind the last that is in.
        int[][] parts = {{199, 300}, {200, 300}, {100, 300}, {200, 300}, {0, 300}, {0, 199}};
        for (int w = 0; w < 6; w++) {
            questions(c, full(), w, parts[w][0], parts[w][1]);
            // Half and half, to stay within an object's 512 calls.
            members(c, full(), w, parts[w], 0, 150);
            members(c, full(), w, parts[w], 150, 300);
        }
        c.end();
    }

    private static WindowMeters full() {
        WindowMeters x = new WindowMeters();
        for (int w = 0; w < 6; w++) {
            x.window(w, 100);
        }
        for (int i = 0; i < 300; i++) {
            x.tuple(i, i % 2, -(i / 2));
        }
        return x;
    }

    private static void questions(Checks c, WindowMeters x, int w, int from, int to) {
        String name = "kind " + w + ", ";
        int least = -((to - 1) / 2);
        int greatest = -(from / 2);
        int sum = 0;
        for (int i = from; i < to; i++) {
            sum -= i / 2;
        }
        c.due(name + "how many", to - from, () -> x.meter(w, 0));
        c.due(name + "sum", sum, x.meter(w, 1));
        c.due(name + "unlike", greatest - least + 1, () -> x.meter(w, 2));
        c.due(name + "how often", 2, () -> x.meter(w, 3));
        c.due(name + "least", least, () -> x.kth(w, 0));
        c.due(name + "greatest", greatest, () -> x.kth(w, to - from - 1));
        c.dueThrow(name + "kth too far", Checks.NO_VALUE, () -> x.kth(w, to - from));
        // OUTSIDE has but one of the two tuples with its least value.
        int frequent = (to - from) % 2 == 1 && from == 0 ? least + 1 : least;
        c.due(name + "frequent", frequent, () -> x.frequent(w));
        c.due(name + "below all", 0, () -> x.below(w, least));
        c.due(name + "below", to - from, () -> x.below(w, greatest + 1));
    }

    private static void members(Checks c, WindowMeters x, int w, int[] part, int first, int behind) {
        for (int i = first; i < behind; i++) {
            int at = i;
            c.due("kind " + w + ", has " + i, i >= part[0] && i < part[1], () -> x.has(w, at));
        }
    }
}
