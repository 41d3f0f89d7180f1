/** Promise 3, a method for each bound of a window's kind, n and number. */
public final class Promise03WindowTest {
    public static void main(String[] args) {
        Checks c = new Checks();
        itsNumber(c);
        kindFrom0To5(c);
        nFrom0(c);
        nTo1000000(c);
        sixAndNoMore(c);
        refusedOnesMakeNone(c);
        wrongArgumentsWhenThereAreSix(c);
        eachKeepsItsOwn(c);
        c.end();
    }

    private static void itsNumber(Checks c) {
        WindowMeters x = new WindowMeters();
        for (int w = 0; w < 6; w++) {
            int kind = w;
            c.due("window " + w, w, () -> x.window(kind, 1));
        }
    }

    private static void kindFrom0To5(Checks c) {
        for (int kind = 0; kind < 6; kind++) {
            WindowMeters x = new WindowMeters();
            int good = kind;
            c.due("kind " + kind, 0, () -> x.window(good, 1));
        }
        WindowMeters x = new WindowMeters();
        for (int kind : new int[] {-1, 6, Checks.MIN, Checks.MAX}) {
            c.dueThrow("kind " + kind, Checks.ILLEGAL, () -> x.window(kind, 1));
        }
    }

    private static void nFrom0(Checks c) {
        for (int kind = 0; kind < 6; kind++) {
            WindowMeters x = new WindowMeters();
            int good = kind;
            c.dueThrow("kind " + kind + ", n -1", Checks.ILLEGAL, () -> x.window(good, -1));
            c.dueThrow("kind " + kind + ", least int", Checks.ILLEGAL, () -> x.window(good, Checks.MIN));
            c.due("kind " + kind + ", n 0", 0, () -> x.window(good, 0));
            c.due("kind " + kind + ", n 1", 1, () -> x.window(good, 1));
        }
    }

    private static void nTo1000000(Checks c) {
        for (int kind = 0; kind < 6; kind++) {
            WindowMeters x = new WindowMeters();
            int good = kind;
            c.dueThrow("kind " + kind + ", n 1000001", Checks.ILLEGAL, () -> x.window(good, 1000001));
            c.dueThrow("kind " + kind + ", greatest int", Checks.ILLEGAL, () -> x.window(good, Checks.MAX));
            c.due("kind " + kind + ", n 1000000", 0, () -> x.window(good, 1000000));
            c.due("kind " + kind + ", n 999999", 1, () -> x.window(good, 999999));
        }
    }

    private static void sixAndNoMore(Checks c) {
        WindowMeters x = Checks.of(5, 2);
        c.due("the sixth", 5, () -> x.window(1, 1));
        c.dueThrow("a seventh", Checks.FULL, () -> x.window(0, 1));
        c.dueThrow("a seventh again", Checks.FULL, () -> x.window(5, 0));
        c.dueThrow("a seventh at the last bounds", Checks.FULL, () -> x.window(5, 1000000));
        c.due("the sixth is as it was made", 1, () -> x.meter(5, 0));
        c.due("the first is as it was made", 2, () -> x.meter(0, 0));
        c.dueThrow("window 6", Checks.NO_SUCH, () -> x.meter(6, 0));
    }

    private static void refusedOnesMakeNone(Checks c) {
        WindowMeters x = new WindowMeters();
        c.dueThrow("kind 6", Checks.ILLEGAL, () -> x.window(6, 1));
        c.dueThrow("n -1", Checks.ILLEGAL, () -> x.window(0, -1));
        c.dueThrow("window 0", Checks.NO_SUCH, () -> x.meter(0, 0));
        c.due("the first that is made", 0, () -> x.window(0, 1));
    }

    // The document names what is wrong with the arguments ahead of there being six.
    private static void wrongArgumentsWhenThereAreSix(Checks c) {
        WindowMeters x = Checks.of(6, 0);
        c.dueThrow("kind -1 of a seventh", Checks.ILLEGAL, () -> x.window(-1, 1));
        c.dueThrow("kind 6 of a seventh", Checks.ILLEGAL, () -> x.window(6, 1));
        c.dueThrow("n -1 of a seventh", Checks.ILLEGAL, () -> x.window(0, -1));
        c.dueThrow("n 1000001 of a seventh", Checks.ILLEGAL, () -> x.window(5, 1000001));
    }

    private static void eachKeepsItsOwn(Checks c) {
        WindowMeters x = new WindowMeters();
        for (int w = 0; w < 6; w++) {
            x.window(w, w % 2 == 0 ? 0 : 1000000);
        }
        x.tuple(4, 0, 9);
        x.tuple(5, 0, 9);
        int[] want = {1, 2, 0, 2, 1, 0};
        for (int w = 0; w < 6; w++) {
            int number = w;
            c.due("what window " + w + " has", want[w], () -> x.meter(number, 0));
        }
        WindowMeters y = Checks.withValues(1, 2, 3);
        c.due("second window of a kind", 1, () -> y.window(1, 2));
        c.due("third window of a kind", 2, () -> y.window(1, 1));
        c.due("all rows", 3, () -> y.meter(0, 0));
        c.due("two rows", 2, () -> y.meter(1, 0));
        c.due("one row", 1, () -> y.meter(2, 0));
    }
}
