public final class Promise05TickTest {
    public static void main(String[] args) {
        Checks c = new Checks();
        WindowMeters x = new WindowMeters();
        wrong(c, x, -1);
        wrong(c, x, Integer.MIN_VALUE);
        wrong(c, x, 1000001);
        wrong(c, x, Integer.MAX_VALUE);
        right(c, x, 0);
        right(c, x, 7);
        right(c, x, 7);
        wrong(c, x, 6);
        x.tuple(9, 0, 1);
        wrong(c, x, 8);
        right(c, x, 9);
        x.window(0, 3);
        right(c, x, 12);
        c.due("still in", 1, x.meter(0, 0));
        right(c, x, 13);
        c.due("gone by", 0, x.meter(0, 0));
        right(c, x, 1000000);
        right(c, x, 1000000);
        wrong(c, x, 1000001);
        wrong(c, x, 999999);
        c.end();
    }

    private static void right(Checks c, WindowMeters x, int time) {
        c.dueNoThrow("tick(" + time + ")", () -> x.tick(time));
        c.due("now after tick(" + time + ")", time, x.now());
    }

    private static void wrong(Checks c, WindowMeters x, int time) {
        int now = x.now();
        c.dueActThrow("tick(" + time + ")", IllegalArgumentException.class, () -> x.tick(time));
        c.due("now after a wrong tick(" + time + ")", now, x.now());
    }
}
