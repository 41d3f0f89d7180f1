/** Terms 1, a method for each bound: what a tuple may be, what now is, how many tuples. */
public final class Terms1TuplesTest {
    public static void main(String[] args) {
        Checks c = new Checks();
        timeFrom0(c);
        timeTo1000000(c);
        timeNotBelowTheOneBefore(c);
        timeNotBelowNow(c);
        keyFrom0(c);
        keyTo7(c);
        valueIsAnyInt(c);
        nowIs0AtFirst(c);
        nowIsTheGreatestTimeTold(c);
        atMost300(c);
        c.end();
    }

    private static void timeFrom0(Checks c) {
        WindowMeters x = new WindowMeters();
        c.dueThrow("time -1", Checks.ILLEGAL, () -> x.tuple(-1, 0, 1));
        c.dueThrow("the least int as time", Checks.ILLEGAL, () -> x.tuple(Checks.MIN, 0, 1));
        c.due("time 0", 1, () -> x.tuple(0, 0, 1));
        c.dueThrow("time -1 behind a tuple", Checks.ILLEGAL, () -> x.tuple(-1, 0, 1));
    }

    private static void timeTo1000000(Checks c) {
        WindowMeters x = new WindowMeters();
        c.dueThrow("time 1000001", Checks.ILLEGAL, () -> x.tuple(1000001, 0, 1));
        c.dueThrow("the greatest int as time", Checks.ILLEGAL, () -> x.tuple(Checks.MAX, 0, 1));
        c.due("time 999999", 1, () -> x.tuple(999999, 0, 1));
        c.due("time 1000000", 2, () -> x.tuple(1000000, 0, 1));
        c.due("time 1000000 again", 3, () -> x.tuple(1000000, 0, 1));
        c.dueThrow("time 1000001 behind them", Checks.ILLEGAL, () -> x.tuple(1000001, 0, 1));
    }

    private static void timeNotBelowTheOneBefore(Checks c) {
        WindowMeters x = new WindowMeters();
        x.tuple(50, 0, 1);
        c.dueThrow("one below the one before", Checks.ILLEGAL, () -> x.tuple(49, 0, 1));
        c.dueThrow("0 behind 50", Checks.ILLEGAL, () -> x.tuple(0, 0, 1));
        c.due("that of the one before", 2, () -> x.tuple(50, 0, 1));
        c.due("one above the one before", 3, () -> x.tuple(51, 0, 1));
        c.dueThrow("that of the one ahead of it", Checks.ILLEGAL, () -> x.tuple(50, 0, 1));
    }

    private static void timeNotBelowNow(Checks c) {
        WindowMeters x = new WindowMeters();
        x.tick(50);
        c.dueThrow("one below now, no tuple before", Checks.ILLEGAL, () -> x.tuple(49, 0, 1));
        c.due("now", 1, () -> x.tuple(50, 0, 1));
        x.tick(60);
        c.dueThrow("one below now, above the one before", Checks.ILLEGAL, () -> x.tuple(59, 0, 1));
        c.dueThrow("the time of the one before, below now", Checks.ILLEGAL, () -> x.tuple(50, 0, 1));
        c.due("now again", 2, () -> x.tuple(60, 0, 1));
        x.tick(1000000);
        c.dueThrow("one below the last now", Checks.ILLEGAL, () -> x.tuple(999999, 0, 1));
        c.due("the last now", 3, () -> x.tuple(1000000, 0, 1));
    }

    private static void keyFrom0(Checks c) {
        WindowMeters x = new WindowMeters();
        c.dueThrow("key -1", Checks.ILLEGAL, () -> x.tuple(0, -1, 1));
        c.dueThrow("the least int as key", Checks.ILLEGAL, () -> x.tuple(0, Checks.MIN, 1));
        c.due("key 0", 1, () -> x.tuple(0, 0, 1));
        c.due("key 1", 2, () -> x.tuple(0, 1, 1));
    }

    private static void keyTo7(Checks c) {
        WindowMeters x = new WindowMeters();
        c.dueThrow("key 8", Checks.ILLEGAL, () -> x.tuple(0, 8, 1));
        c.dueThrow("the greatest int as key", Checks.ILLEGAL, () -> x.tuple(0, Checks.MAX, 1));
        c.due("key 7", 1, () -> x.tuple(0, 7, 1));
        c.due("key 6", 2, () -> x.tuple(0, 6, 1));
    }

    private static void valueIsAnyInt(Checks c) {
        for (int value : new int[] {Checks.MIN, Checks.MIN + 1, -1, 0, 1, Checks.MAX - 1, Checks.MAX}) {
            WindowMeters x = new WindowMeters();
            x.window(1, 1);
            c.due("value " + value, 1, () -> x.tuple(0, 0, value));
            c.due("sum of " + value, value, () -> x.meter(0, 1));
            c.due("least of " + value, value, () -> x.kth(0, 0));
            c.due("most frequent of " + value, value, () -> x.frequent(0));
        }
    }

    private static void nowIs0AtFirst(Checks c) {
        WindowMeters x = new WindowMeters();
        c.due("now at first", 0, x::now);
        c.dueNoThrow("tick(0) at first", () -> x.tick(0));
        c.due("now of tick(0)", 0, x::now);
        c.due("tuple at 0", 1, () -> x.tuple(0, 0, 99));
        c.due("now of a tuple at 0", 0, x::now);
    }

    private static void nowIsTheGreatestTimeTold(Checks c) {
        WindowMeters x = new WindowMeters();
        x.tuple(5, 7, 900);
        c.due("told by a tuple", 5, x::now);
        x.tick(8);
        c.due("told by a tick", 8, x::now);
        c.dueThrow("a time below is not told", Checks.ILLEGAL, () -> x.tuple(6, 0, 0));
        c.dueActThrow("a tick below is not told", Checks.ILLEGAL, () -> x.tick(7));
        c.due("the greatest of them", 8, x::now);
        x.tuple(8, 0, 0);
        c.due("told again", 8, x::now);
        x.tuple(1000000, 0, 0);
        c.due("told last", 1000000, x::now);
    }

    private static void atMost300(Checks c) {
        WindowMeters x = new WindowMeters();
        for (int i = 1; i <= 300; i++) {
            int count = i;
            c.due("tuple " + i, i, () -> x.tuple(count, count % 8, count));
        }
        c.dueThrow("tuple 301", Checks.FULL, () -> x.tuple(300, 0, 1));
        c.dueThrow("tuple 301 again", Checks.FULL, () -> x.tuple(1000000, 7, 1));
        c.due("window behind 300 tuples", 0, () -> x.window(1, 1000000));
        c.due("there are 300", 300, () -> x.meter(0, 0));
        c.due("the sum of them", 45150, () -> x.meter(0, 1));
    }
}
