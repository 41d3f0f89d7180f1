/** Promise 11; Terms1TuplesTest has what now is. */
public final class Promise11NowTest {
    public static void main(String[] args) {
        Checks c = new Checks();
        now(c);
        theLastTime(c);
        questionsAndWindowsLeaveIt(c);
        refusedTimesLeaveIt(c);
        c.end();
    }

    private static void now(Checks c) {
        WindowMeters x = new WindowMeters();
        c.due("at first", 0, x::now);
        x.tuple(4, 0, 99);
        c.due("by a tuple", 4, x::now);
        x.tick(6);
        c.due("by a tick", 6, x::now);
        x.tuple(6, 0, 99);
        c.due("by a tuple of that time", 6, x::now);
        x.clear();
        c.due("after clear", 0, x::now);
    }

    private static void theLastTime(Checks c) {
        WindowMeters x = new WindowMeters();
        x.tuple(999999, 0, 99);
        c.due("one below the last time", 999999, x::now);
        x.tick(1000000);
        c.due("the last time, by a tick", 1000000, x::now);
        x.clear();
        x.tuple(1000000, 0, 99);
        c.due("the last time, by a tuple", 1000000, x::now);
    }

    private static void questionsAndWindowsLeaveIt(Checks c) {
        WindowMeters x = new WindowMeters();
        x.tuple(6, 0, 99);
        x.window(0, 100);
        x.meter(0, 1);
        x.kth(0, 0);
        x.frequent(0);
        x.below(0, 1);
        x.has(0, 0);
        c.due("after questions", 6, x::now);
    }

    private static void refusedTimesLeaveIt(Checks c) {
        WindowMeters x = Checks.of(0, 300);
        x.tick(6);
        for (int time : new int[] {5, -1, 1000001, Checks.MIN, Checks.MAX}) {
            c.dueActThrow("tick(" + time + ")", Checks.ILLEGAL, () -> x.tick(time));
            c.dueThrow("tuple at " + time, Checks.ILLEGAL, () -> x.tuple(time, 0, 1));
            c.due("now after " + time, 6, x::now);
        }
        c.dueThrow("tuple 301", Checks.FULL, () -> x.tuple(9, 0, 1));
        c.due("now after tuple 301", 6, x::now);
    }
}
