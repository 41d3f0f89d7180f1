/** The six kinds of window, Terms 2. */
public final class KindsTest {
    public static void main(String[] args) {
        Checks c = new Checks();
        range(c);
        rows(c);
        keys(c);
        block(c);
        run(c);
        outside(c);
        laterWindows(c);
        c.end();
    }

    private static WindowMeters at(int now, int... times) {
        WindowMeters x = new WindowMeters();
        for (int time : times) {
            x.tuple(time, 0, 1);
        }
        x.tick(now);
        return x;
    }

    private static void kind(Checks c, String want, int kind, int n, int now, int... times) {
        WindowMeters x = at(now, times);
        x.window(kind, n);
        c.due("kind " + kind + ", n " + n + ", now " + now, want, Checks.members(x, 0, times.length));
    }

    private static void range(Checks c) {
        kind(c, "", 0, 5, 9);
        kind(c, "1 2 3", 0, 4, 9, 4, 5, 7, 9);
        kind(c, "3", 0, 0, 9, 4, 5, 7, 9);
        kind(c, "", 0, 0, 10, 4, 5, 7, 9);
        kind(c, "0 1", 0, 9, 5, 0, 5);
        kind(c, "0 1", 0, 1000000, 1000000, 0, 1000000);
        kind(c, "1", 0, 999999, 1000000, 0, 1);
    }

    private static void rows(Checks c) {
        kind(c, "", 1, 3, 9);
        kind(c, "", 1, 0, 9, 4, 5, 7, 9);
        kind(c, "3", 1, 1, 500, 4, 5, 7, 9);
        kind(c, "1 2 3", 1, 3, 9, 4, 4, 4, 4);
        kind(c, "0 1 2 3", 1, 4, 9, 4, 5, 7, 9);
        kind(c, "0 1 2 3", 1, 1000000, 9, 4, 5, 7, 9);
    }

    private static void keys(Checks c) {
        WindowMeters x = new WindowMeters();
        for (int n = 0; n < 4; n++) {
            x.window(2, n);
        }
        x.window(2, 1000000);
        c.due("keys of none", 0, x.meter(4, 0));
        for (int key : new int[] {0, 7, 0, 3, 0, 7}) {
            x.tuple(1, key, key);
        }
        x.tick(900);
        c.due("keys 0", "", Checks.members(x, 0, 6));
        c.due("keys 1", "3 4 5", Checks.members(x, 1, 6));
        c.due("keys 2", "1 2 3 4 5", Checks.members(x, 2, 6));
        c.due("keys 3", "0 1 2 3 4 5", Checks.members(x, 3, 6));
        c.due("keys 1000000", "0 1 2 3 4 5", Checks.members(x, 4, 6));
        c.due("asked again", "3 4 5", Checks.members(x, 1, 6));
    }

    private static void block(Checks c) {
        kind(c, "", 3, 5, 9);
        kind(c, "2 3 4", 3, 10, 19, 5, 9, 10, 11, 19);
        kind(c, "", 3, 10, 20, 5, 9, 10, 11, 19);
        kind(c, "0 1 2", 3, 10, 9, 0, 5, 9);
        kind(c, "1 2", 3, 1, 9, 8, 9, 9);
        kind(c, "1 2", 3, 0, 9, 8, 9, 9);
        kind(c, "", 3, 0, 10, 8, 9, 9);
        kind(c, "0 1", 3, 1000000, 999999, 0, 999999);
        kind(c, "2", 3, 1000000, 1000000, 0, 999999, 1000000);
    }

    private static void run(Checks c) {
        kind(c, "", 4, 5, 9);
        kind(c, "2 3 4", 4, 2, 11, 1, 4, 7, 9, 11);
        kind(c, "2 3 4", 4, 2, 13, 1, 4, 7, 9, 11);
        kind(c, "", 4, 2, 14, 1, 4, 7, 9, 11);
        kind(c, "1 2", 4, 0, 5, 4, 5, 5);
        kind(c, "", 4, 0, 6, 4, 5, 5);
        // A gap ends it, however near those before the gap are to each other.
        kind(c, "3", 4, 3, 20, 1, 2, 3, 20);
        kind(c, "0 1 2 3", 4, 3, 10, 0, 3, 6, 9);
        kind(c, "0 1", 4, 1000000, 1000000, 0, 1000000);
        kind(c, "1", 4, 999999, 1000000, 0, 1000000);
    }

    private static void outside(Checks c) {
        kind(c, "", 5, 5, 9);
        kind(c, "0", 5, 4, 9, 4, 5, 7, 9);
        kind(c, "0 1 2", 5, 0, 9, 4, 5, 7, 9);
        kind(c, "0 1 2 3", 5, 0, 10, 4, 5, 7, 9);
        kind(c, "", 5, 9, 5, 0, 5);
        kind(c, "", 5, 1000000, 1000000, 0, 1000000);
        kind(c, "0", 5, 999999, 1000000, 0, 1);
    }

    private static void laterWindows(Checks c) {
        WindowMeters x = at(10, 1, 6, 10);
        for (int kind = 0; kind < 6; kind++) {
            x.window(kind, 4);
        }
        String[] want = {"1 2", "0 1 2", "0 1 2", "2", "1 2", "0"};
        for (int w = 0; w < 6; w++) {
            c.due("window made later, kind " + w, want[w], Checks.members(x, w, 3));
        }
        x.tuple(13, 0, 1);
        String[] next = {"2 3", "0 1 2 3", "0 1 2 3", "3", "1 2 3", "0 1"};
        for (int w = 0; w < 6; w++) {
            c.due("window gone on, kind " + w, next[w], Checks.members(x, w, 4));
        }
    }
}
