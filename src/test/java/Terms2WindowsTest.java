/** Terms 2: how many windows, their numbers, and what each of the six kinds has at its bounds. */
public final class Terms2WindowsTest {
    public static void main(String[] args) {
        Checks c = new Checks();
        upToSix(c);
        numberedFrom0(c);
        alsoThoseThatCameAhead(c);
        noTuples(c);
        range(c);
        rows(c);
        rowsOf300(c);
        keys(c);
        keysOf300(c);
        everyKeyByItself(c);
        block(c);
        blockOf0IsThatOf1(c);
        run(c);
        runEndsAtItsFirstGap(c);
        outside(c);
        rangeAndOutsideShareAll(c);
        c.end();
    }

    private static WindowMeters at(int now, int... times) {
        WindowMeters x = new WindowMeters();
        for (int time : times) {
            x.tuple(time, 0, 1);
        }
        x.tick(now);
        return x;
    }

    private static void kind(Checks c, String want, int kind, int n, int now, int... times) {
        WindowMeters x = at(now, times);
        x.window(kind, n);
        c.due("kind " + kind + ", n " + n + ", now " + now, want, () -> Checks.members(x, 0, times.length));
    }

    private static void upToSix(Checks c) {
        WindowMeters x = new WindowMeters();
        for (int w = 0; w < 6; w++) {
            int kind = 5 - w;
            c.due("window " + w, w, () -> x.window(kind, 1));
        }
        for (int kind = 0; kind < 6; kind++) {
            int good = kind;
            c.dueThrow("a seventh window", Checks.FULL, () -> x.window(good, 1));
        }
    }

    private static void numberedFrom0(Checks c) {
        WindowMeters x = Checks.of(0, 9);
        for (int w = 0; w < 6; w++) {
            int n = w + 1;
            c.due("number of window " + w, w, () -> x.window(1, n));
        }
        for (int w = 0; w < 6; w++) {
            int number = w;
            c.due("what window " + w + " has", w + 1, () -> x.meter(number, 0));
        }
    }

    private static void alsoThoseThatCameAhead(Checks c) {
        WindowMeters x = at(10, 1, 6, 10);
        for (int kind = 0; kind < 6; kind++) {
            x.window(kind, 4);
        }
        String[] want = {"1 2", "0 1 2", "0 1 2", "2", "1 2", "0"};
        for (int w = 0; w < 6; w++) {
            int number = w;
            c.due("window made later, kind " + w, want[w], () -> Checks.members(x, number, 3));
        }
        x.tuple(13, 0, 1);
        String[] next = {"2 3", "0 1 2 3", "0 1 2 3", "3", "1 2 3", "0 1"};
        for (int w = 0; w < 6; w++) {
            int number = w;
            c.due("window gone on, kind " + w, next[w], () -> Checks.members(x, number, 4));
        }
    }

    private static void noTuples(Checks c) {
        for (int n : new int[] {0, 1, 5, 1000000}) {
            for (int now : new int[] {0, 1, 9, 1000000}) {
                noTuples(c, n, now);
            }
        }
    }

    private static void noTuples(Checks c, int n, int now) {
        WindowMeters x = at(now);
        for (int w = 0; w < 6; w++) {
            int number = w;
            x.window(w, n);
            c.due("kind " + w + " of no tuples, n " + n + ", now " + now, 0, () -> x.meter(number, 0));
        }
    }

    private static void range(Checks c) {
        kind(c, "1 2 3", 0, 4, 9, 4, 5, 7, 9);
        kind(c, "0 1 2 3", 0, 5, 9, 4, 5, 7, 9);
        kind(c, "3", 0, 0, 9, 4, 5, 7, 9);
        kind(c, "", 0, 0, 10, 4, 5, 7, 9);
        kind(c, "3", 0, 1, 10, 4, 5, 7, 9);
        kind(c, "0 1", 0, 9, 5, 0, 5);
        kind(c, "0", 0, 0, 0, 0);
        kind(c, "0", 0, 1000000, 0, 0);
        kind(c, "0 1", 0, 1000000, 1000000, 0, 1000000);
        kind(c, "1", 0, 999999, 1000000, 0, 1);
    }

    private static void rows(Checks c) {
        kind(c, "", 1, 0, 9, 4, 5, 7, 9);
        kind(c, "3", 1, 1, 500, 4, 5, 7, 9);
        kind(c, "1 2 3", 1, 3, 9, 4, 4, 4, 4);
        kind(c, "0 1 2 3", 1, 4, 9, 4, 5, 7, 9);
        kind(c, "0 1 2 3", 1, 5, 9, 4, 5, 7, 9);
        kind(c, "0 1 2 3", 1, 1000000, 1000000, 0, 5, 7, 9);
    }

    private static void rowsOf300(Checks c) {
        int[] lengths = {0, 1, 299, 300, 301, 1000000};
        int[] want = {0, 1, 299, 300, 300, 300};
        WindowMeters x = Checks.of(0, 300);
        for (int w = 0; w < 6; w++) {
            int number = w;
            x.window(1, lengths[w]);
            c.due("rows " + lengths[w] + " of 300", want[w], () -> x.meter(number, 0));
            c.due("the first of 300 in rows " + lengths[w], want[w] == 300, () -> x.has(number, 0));
            c.due("the last of 300 in rows " + lengths[w], want[w] != 0, () -> x.has(number, 299));
        }
    }

    private static void keys(Checks c) {
        WindowMeters x = new WindowMeters();
        for (int n = 0; n < 4; n++) {
            x.window(2, n);
        }
        x.window(2, 1000000);
        for (int key : new int[] {0, 7, 0, 3, 0, 7}) {
            x.tuple(1, key, key);
        }
        x.tick(900);
        c.due("keys 0", "", () -> Checks.members(x, 0, 6));
        c.due("keys 1", "3 4 5", () -> Checks.members(x, 1, 6));
        c.due("keys 2", "1 2 3 4 5", () -> Checks.members(x, 2, 6));
        c.due("keys 3", "0 1 2 3 4 5", () -> Checks.members(x, 3, 6));
        c.due("keys 1000000", "0 1 2 3 4 5", () -> Checks.members(x, 4, 6));
        c.due("asked again", "3 4 5", () -> Checks.members(x, 1, 6));
    }

    private static void keysOf300(Checks c) {
        // 300 tuples with the keys in turn: 38 of each of 0 .. 3, 37 of each of 4 .. 7.
        int[] lengths = {0, 1, 36, 37, 38, 1000000};
        int[] want = {0, 8, 288, 296, 300, 300};
        WindowMeters x = Checks.of(0, 300);
        for (int w = 0; w < 6; w++) {
            int number = w;
            x.window(2, lengths[w]);
            c.due("keys " + lengths[w] + " of 300", want[w], () -> x.meter(number, 0));
        }
        c.due("the first of key 3 in keys 37", false, () -> x.has(3, 3));
        c.due("the first of key 4 in keys 37", true, () -> x.has(3, 4));
    }

    private static void everyKeyByItself(Checks c) {
        for (int key = 0; key < 8; key++) {
            WindowMeters x = new WindowMeters();
            x.window(2, 1);
            for (int other = 0; other < 8; other++) {
                x.tuple(0, other, 1);
            }
            x.tuple(0, key, 1);
            c.due("key " + key + " twice, how many", 8, () -> x.meter(0, 0));
            int first = key;
            c.due("key " + key + " twice, the first", false, () -> x.has(0, first));
            c.due("key " + key + " twice, the second", true, () -> x.has(0, 8));
        }
    }

    private static void block(Checks c) {
        kind(c, "2 3 4", 3, 10, 19, 5, 9, 10, 11, 19);
        kind(c, "", 3, 10, 20, 5, 9, 10, 11, 19);
        kind(c, "5", 3, 10, 20, 5, 9, 10, 11, 19, 20);
        kind(c, "0 1 2", 3, 10, 9, 0, 5, 9);
        kind(c, "", 3, 10, 10, 0, 5, 9);
        kind(c, "1 2", 3, 1, 9, 8, 9, 9);
        kind(c, "", 3, 1, 10, 8, 9, 9);
        kind(c, "0", 3, 1, 0, 0);
        kind(c, "0 1", 3, 1000000, 999999, 0, 999999);
        kind(c, "2", 3, 1000000, 1000000, 0, 999999, 1000000);
        kind(c, "", 3, 1000000, 1000000, 0, 999999);
        kind(c, "1 2", 3, 999999, 1000000, 999998, 999999, 1000000);
    }

    private static void blockOf0IsThatOf1(Checks c) {
        kind(c, "1 2", 3, 0, 9, 8, 9, 9);
        kind(c, "", 3, 0, 10, 8, 9, 9);
        kind(c, "0", 3, 0, 0, 0);
        kind(c, "1", 3, 0, 1000000, 999999, 1000000);
    }

    private static void run(Checks c) {
        kind(c, "2 3 4", 4, 2, 11, 1, 4, 7, 9, 11);
        kind(c, "2 3 4", 4, 2, 13, 1, 4, 7, 9, 11);
        kind(c, "", 4, 2, 14, 1, 4, 7, 9, 11);
        kind(c, "1 2", 4, 0, 5, 4, 5, 5);
        kind(c, "", 4, 0, 6, 4, 5, 5);
        kind(c, "0", 4, 0, 0, 0);
        kind(c, "0 1 2 3", 4, 3, 10, 0, 3, 6, 9);
        kind(c, "0 1", 4, 1000000, 1000000, 0, 1000000);
        kind(c, "0", 4, 1000000, 1000000, 0);
        kind(c, "1", 4, 999999, 1000000, 0, 1000000);
        kind(c, "", 4, 999999, 1000000, 0);
    }

    private static void runEndsAtItsFirstGap(Checks c) {
        kind(c, "3", 4, 3, 20, 1, 2, 3, 20);
        kind(c, "3 4", 4, 3, 23, 1, 2, 16, 20, 23);
        kind(c, "2 3 4", 4, 3, 23, 1, 2, 17, 20, 23);
    }

    private static void outside(Checks c) {
        kind(c, "0", 5, 4, 9, 4, 5, 7, 9);
        kind(c, "", 5, 5, 9, 4, 5, 7, 9);
        kind(c, "0 1 2", 5, 0, 9, 4, 5, 7, 9);
        kind(c, "0 1 2 3", 5, 0, 10, 4, 5, 7, 9);
        kind(c, "", 5, 9, 5, 0, 5);
        kind(c, "", 5, 0, 0, 0);
        kind(c, "", 5, 1000000, 0, 0);
        kind(c, "", 5, 1000000, 1000000, 0, 1000000);
        kind(c, "0", 5, 999999, 1000000, 0, 1);
    }

    private static void rangeAndOutsideShareAll(Checks c) {
        WindowMeters x = new WindowMeters();
        x.window(0, 100);
        x.window(5, 100);
        for (int i = 0; i < 300; i++) {
            x.tuple(i, 0, i);
        }
        c.due("range 100 of 300", 101, () -> x.meter(0, 0));
        c.due("outside 100 of 300", 199, () -> x.meter(1, 0));
        c.due("the last outside", true, () -> x.has(1, 198));
        c.due("the last outside is not in range", false, () -> x.has(0, 198));
        c.due("the first in range", true, () -> x.has(0, 199));
        c.due("the first in range is not outside", false, () -> x.has(1, 199));
    }
}
