/** Promise 5, a method for each of its sentences. */
public final class Promise05TickTest {
    public static void main(String[] args) {
        Checks c = new Checks();
        aTimeThatIsNow(c);
        belowNow(c);
        above1000000(c);
        windowsGoWithIt(c);
        noTupleComesOfIt(c);
        c.end();
    }

    private static void aTimeThatIsNow(Checks c) {
        WindowMeters x = new WindowMeters();
        for (int time : new int[] {0, 0, 1, 7, 7, 999999, 1000000, 1000000}) {
            right(c, x, time);
        }
    }

    private static void belowNow(Checks c) {
        WindowMeters x = new WindowMeters();
        wrong(c, x, -1);
        wrong(c, x, Checks.MIN);
        x.tick(7);
        wrong(c, x, 6);
        wrong(c, x, 0);
        wrong(c, x, -1);
        right(c, x, 7);
        x.tuple(9, 0, 1);
        wrong(c, x, 8);
        right(c, x, 9);
        x.tick(1000000);
        wrong(c, x, 999999);
        right(c, x, 1000000);
    }

    private static void above1000000(Checks c) {
        WindowMeters x = new WindowMeters();
        wrong(c, x, 1000001);
        wrong(c, x, Checks.MAX);
        right(c, x, 1000000);
        wrong(c, x, 1000001);
    }

    private static void windowsGoWithIt(Checks c) {
        WindowMeters x = new WindowMeters();
        x.window(0, 3);
        x.tuple(9, 0, 1);
        right(c, x, 12);
        c.due("still in", 1, () -> x.meter(0, 0));
        wrong(c, x, 11);
        right(c, x, 13);
        c.due("gone by", 0, () -> x.meter(0, 0));
    }

    private static void noTupleComesOfIt(Checks c) {
        WindowMeters x = Checks.of(1, 299);
        right(c, x, 5);
        c.due("values", 299, () -> x.meter(0, 0));
        c.due("tuple 300", 300, () -> x.tuple(5, 0, 1));
        right(c, x, 6);
        c.due("values of 300", 300, () -> x.meter(0, 0));
    }

    private static void right(Checks c, WindowMeters x, int time) {
        c.dueNoThrow("tick(" + time + ")", () -> x.tick(time));
        c.due("now after tick(" + time + ")", time, x::now);
    }

    private static void wrong(Checks c, WindowMeters x, int time) {
        int now = x.now();
        c.dueActThrow("tick(" + time + ")", Checks.ILLEGAL, () -> x.tick(time));
        c.due("now after a wrong tick(" + time + ")", now, x::now);
    }
}
