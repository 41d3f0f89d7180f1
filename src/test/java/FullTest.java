import java.util.NoSuchElementException;

/** Every question to every kind of window when there are 300 tuples and six windows. */
public final class FullTest {
    public static void main(String[] args) {
        Checks c = new Checks();
        WindowMeters x = new WindowMeters();
        for (int w = 0; w < 6; w++) {
            x.window(w, 100);
        }
        for (int i = 0; i < 300; i++) {
            x.tuple(i, i % 2, -(i / 2));
        }
        // The first tuple that is in, and the one behind the last that is in.
        int[][] parts = {{199, 300}, {200, 300}, {100, 300}, {200, 300}, {0, 300}, {0, 199}};
        for (int w = 0; w < 6; w++) {
            questions(c, x, w, parts[w][0], parts[w][1]);
        }
        c.end();
    }

    private static void questions(Checks c, WindowMeters x, int w, int from, int to) {
        String name = "kind " + w + ", ";
        int least = -((to - 1) / 2);
        int greatest = -(from / 2);
        int sum = 0;
        for (int i = from; i < to; i++) {
            sum -= i / 2;
        }
        c.due(name + "how many", to - from, Checks.outcome(() -> x.meter(w, 0)));
        c.due(name + "sum", sum, Checks.outcome(() -> x.meter(w, 1)));
        c.due(name + "unlike", greatest - least + 1, Checks.outcome(() -> x.meter(w, 2)));
        c.due(name + "how often", 2, Checks.outcome(() -> x.meter(w, 3)));
        c.due(name + "least", least, Checks.outcome(() -> x.kth(w, 0)));
        c.due(name + "greatest", greatest, Checks.outcome(() -> x.kth(w, to - from - 1)));
        c.dueThrow(name + "kth too far", NoSuchElementException.class, () -> x.kth(w, to - from));
        // OUTSIDE has but one of the two tuples with its least value.
        int frequent = (to - from) % 2 == 1 && from == 0 ? least + 1 : least;
        c.due(name + "frequent", frequent, Checks.outcome(() -> x.frequent(w)));
        c.due(name + "below all", 0, Checks.outcome(() -> x.below(w, least)));
        c.due(name + "below", to - from, Checks.outcome(() -> x.below(w, greatest + 1)));
        for (int i = 0; i < 300; i++) {
            int at = i;
            c.due(name + "has " + i, i >= from && i < to, Checks.outcome(() -> x.has(w, at)));
        }
    }
}
