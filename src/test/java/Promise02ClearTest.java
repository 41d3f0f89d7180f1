/** Promise 2: all goes, which is to say tuples, windows and now. */
public final class Promise02ClearTest {
    public static void main(String[] args) {
        Checks c = new Checks();
        clearOfANewObject(c);
        clearTwice(c);
        tuplesGo(c);
        windowsGo(c);
        nowGoes(c);
        room300Again(c);
        roomForSixAgain(c);
        nothingOfBeforeIsLeft(c);
        c.end();
    }

    private static WindowMeters full() {
        WindowMeters x = new WindowMeters();
        for (int w = 0; w < 6; w++) {
            x.window(1, 1000000);
        }
        for (int i = 0; i < 300; i++) {
            x.tuple(i, i % 8, 150 - i);
        }
        x.tick(1000000);
        return x;
    }

    private static void clearOfANewObject(Checks c) {
        WindowMeters x = new WindowMeters();
        c.dueNoThrow("clear of a new object", x::clear);
        isNew(c, "a new object", x);
    }

    private static void clearTwice(Checks c) {
        WindowMeters x = full();
        c.dueNoThrow("clear of a full object", x::clear);
        c.dueNoThrow("clear of a cleared object", x::clear);
        isNew(c, "cleared twice", x);
    }

    private static void isNew(Checks c, String name, WindowMeters x) {
        c.due(name + ", now", 0, x::now);
        c.dueThrow(name + ", window 0", Checks.NO_SUCH, () -> x.meter(0, 0));
        c.due(name + ", first window", 0, () -> x.window(1, 9));
        c.due(name + ", values", 0, () -> x.meter(0, 0));
        c.due(name + ", first tuple", 1, () -> x.tuple(0, 0, 4));
    }

    private static void tuplesGo(Checks c) {
        WindowMeters x = full();
        x.clear();
        for (int w = 0; w < 6; w++) {
            int number = w;
            x.window(w, w == 5 ? 0 : 1000000);
            c.due("values, kind " + w, 0, () -> x.meter(number, 0));
            c.due("sum, kind " + w, 0, () -> x.meter(number, 1));
            c.due("unlike, kind " + w, 0, () -> x.meter(number, 2));
            c.due("how often, kind " + w, 0, () -> x.meter(number, 3));
            c.due("below, kind " + w, 0, () -> x.below(number, Checks.MAX));
            c.dueThrow("least, kind " + w, Checks.NO_VALUE, () -> x.kth(number, 0));
            c.dueThrow("most frequent, kind " + w, Checks.NO_VALUE, () -> x.frequent(number));
            c.dueThrow("tuple 0, kind " + w, Checks.NO_SUCH, () -> x.has(number, 0));
            c.dueThrow("tuple 299, kind " + w, Checks.NO_SUCH, () -> x.has(number, 299));
        }
    }

    private static void windowsGo(Checks c) {
        WindowMeters x = full();
        x.clear();
        for (int w = 0; w < 6; w++) {
            int number = w;
            c.dueThrow("window " + w, Checks.NO_SUCH, () -> x.meter(number, 0));
        }
        c.due("first window", 0, () -> x.window(1, 0));
        c.dueThrow("window 1", Checks.NO_SUCH, () -> x.meter(1, 0));
        x.tuple(0, 0, 1);
        c.due("the window's n is the new one", 0, () -> x.meter(0, 0));
    }

    private static void nowGoes(Checks c) {
        WindowMeters x = full();
        x.clear();
        c.due("now", 0, x::now);
        c.dueNoThrow("tick(0)", () -> x.tick(0));
        c.due("tuple at 0", 1, () -> x.tuple(0, 0, 1));
        c.due("now of it", 0, x::now);
    }

    private static void room300Again(Checks c) {
        WindowMeters x = Checks.of(1, 100);
        x.clear();
        for (int i = 1; i <= 300; i++) {
            int value = i;
            c.due("tuple " + i + " after clear", i, () -> x.tuple(0, 0, value));
        }
        c.dueThrow("tuple 301 after clear", Checks.FULL, () -> x.tuple(0, 0, 1));
        x.window(1, 1000000);
        c.due("all of them", 300, () -> x.meter(0, 0));
        c.due("the least of them", 1, () -> x.kth(0, 0));
        c.due("the greatest of them", 300, () -> x.kth(0, 299));
        WindowMeters y = full();
        y.clear();
        c.due("tuple after clear of 300", 1, () -> y.tuple(0, 0, 1));
    }

    private static void roomForSixAgain(Checks c) {
        WindowMeters x = Checks.of(6, 0);
        x.clear();
        for (int w = 0; w < 6; w++) {
            int number = w;
            c.due("window " + w + " after clear", w, () -> x.window(1, number));
        }
        c.dueThrow("a seventh after clear", Checks.FULL, () -> x.window(1, 1));
    }

    private static void nothingOfBeforeIsLeft(Checks c) {
        WindowMeters x = full();
        x.clear();
        x.window(2, 1000000);
        x.tuple(0, 3, -4);
        x.tuple(0, 3, 200);
        c.due("how many", 2, () -> x.meter(0, 0));
        c.due("sum", 196, () -> x.meter(0, 1));
        c.due("unlike", 2, () -> x.meter(0, 2));
        c.due("how often", 1, () -> x.meter(0, 3));
        c.due("least", -4, () -> x.kth(0, 0));
        c.due("greatest", 200, () -> x.kth(0, 1));
        c.due("most frequent", -4, () -> x.frequent(0));
        c.due("below", 1, () -> x.below(0, 200));
        c.dueThrow("tuple 2", Checks.NO_SUCH, () -> x.has(0, 2));
    }
}
